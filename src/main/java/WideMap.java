import java.util.NoSuchElementException;

/** Ordered maps that never change, on wide nodes that they share, and builders that change theirs in place. */
public final class WideMap {
    public static final int NONE = -1;
    public static final int HIDDEN = -1000000;

    private static final int KEYS = 1000;
    private static final int MOST_VALUE = 999;
    private static final int MOST_ENTRIES = 60;
    private static final int MOST_BYTES = 240;
    private static final int MOST_STEPS = 16;
    private static final int MOST_PROGRAMS = 4;
    private static final int MOST_BUILDERS = 4;
    private static final int MOST_HELD = 16;
    private static final int NUMBERS = 999;
    private static final int MOST_DRAWS = 30;
    private static final int FIRST_WIDTH = 4;
    private static final int LEAST_WIDTH = 3;
    private static final int MOST_WIDTH = 6;
    /** One more than the widest node: a node is parted only after it has overflown. */
    private static final int SLOTS = 7;
    /** 60 entries, two in a leaf and two children at least, make 30 + 15 + 7 + 3 + 1 nodes. */
    private static final int MOST_NODES = 64;
    /** Even the 180 keys that THREE may hold on its way stand in seven levels. */
    private static final int DEEPEST = 12;
    /** 60 entries of nine signs and two signs for each node make 652. */
    private static final int MOST_SIGNS = 700;
    private static final int DIGEST_BASE = 31;
    private static final int DIGEST_MODULUS = 1000003;
    private static final long DRAW_FACTOR = 6364136223846793005L;
    private static final long DRAW_STEP = 1442695040888963407L;

    private static final int MAP_TEXT = 0;
    private static final int PROGRAM_TEXT = 1;
    private static final int NO_SUCH_SORT = -2;

    private static final int NO_SUCH = 0;
    private static final int OUT_OF_BOUNDS = 1;
    private static final int STALE = 2;
    private static final int TOO_MANY = 3;
    private static final int NO_ROOM = 4;
    private static final int REFUSALS = 5;

    private static final int PUT = 0;
    private static final int DEL = 1;
    private static final int ADD = 2;
    private static final int CUT = 3;
    private static final int INC = 4;
    private static final int SNAP = 5;
    private static final int[] KEYS_OF_WORD = {1, 1, 1, 2, 2, 0};
    private static final int[] VALUES_OF_WORD = {1, 0, 1, 0, 1, 0};
    private static final int CELLS = 4;

    private final Tape tape;
    private final Reader reader;
    private final Program[] programs;
    private Program draft;
    private int programCount;
    private final Grower grower;
    private final Maps maps;
    private final Builder[] builders;
    private final int[] refusals;
    private final Sheet latest;
    private final Sheet sheet;
    private final Sheet otherSheet;
    private final Row row;
    private final Row otherRow;
    private final Row baseRow;
    private final Listing nodes;
    private int marks;

    public WideMap() {
        tape = new Tape();
        reader = new Reader(tape);
        programs = new Program[MOST_PROGRAMS];
        draft = new Program();
        grower = new Grower();
        maps = new Maps();
        builders = new Builder[MOST_BUILDERS];
        for (int i = 0; i < builders.length; i++) {
            builders[i] = new Builder();
        }
        refusals = new int[REFUSALS];
        latest = new Sheet();
        sheet = new Sheet();
        otherSheet = new Sheet();
        row = new Row();
        otherRow = new Row();
        baseRow = new Row();
        nodes = new Listing();
    }

    // ---- texts

    public int feed(int a, int b, int c, int d, int e) {
        int more = Tape.signsIn(a) + Tape.signsIn(b) + Tape.signsIn(c) + Tape.signsIn(d) + Tape.signsIn(e);
        if (tape.size() + more > MOST_BYTES) {
            return NONE;
        }
        tape.append(a);
        tape.append(b);
        tape.append(c);
        tape.append(d);
        tape.append(e);
        return tape.size();
    }

    public boolean end(int n) {
        return tape.shorten(n);
    }

    public int fault(int sort) {
        if (sort == MAP_TEXT) {
            return reader.readEntries(row);
        }
        if (sort == PROGRAM_TEXT) {
            return reader.readSteps(draft);
        }
        return NO_SUCH_SORT;
    }

    public int text(int sort) {
        if (sort == MAP_TEXT) {
            return mapTold();
        }
        if (sort == PROGRAM_TEXT) {
            return programTold();
        }
        return NONE;
    }

    private int mapTold() {
        if (reader.readEntries(row) != NONE) {
            return NONE;
        }
        if (!maps.hasRoom()) {
            return refused(NO_ROOM);
        }
        int token = grower.newToken();
        Node root = grower.newNode(true, token);
        for (int i = 0; i < row.size(); i++) {
            root = grower.put(root, token, row.keyAt(i), row.valueAt(i));
        }
        tape.shorten(0);
        return maps.keep(root, NONE, NONE);
    }

    private int programTold() {
        if (reader.readSteps(draft) != NONE || programCount < 0 || programCount >= programs.length) {
            return NONE;
        }
        programs[programCount] = draft;
        draft = new Program();
        tape.shorten(0);
        return programCount++;
    }

    // ---- what a map holds

    public int wide(int width) {
        if (width < LEAST_WIDTH || width > MOST_WIDTH) {
            return refused(OUT_OF_BOUNDS);
        }
        grower.open(width);
        maps.open();
        closeBuilders();
        return width;
    }

    public int find(int map, int key) {
        return valueIn(maps.heldRoot(map), key);
    }

    public int key(int map, int i) throws NoSuchElementException {
        row.fill(maps.heldRoot(map));
        if (i < 0 || i >= row.size()) {
            throw new NoSuchElementException();
        }
        return row.keyAt(i);
    }

    public int about(int map, int what) {
        Node root = maps.heldRoot(map);
        if (root == null) {
            return HIDDEN;
        }
        row.fill(root);
        nodes.fill(root);
        switch (what) {
            case 0: return row.size();
            case 1: return nodes.levels();
            case 2: return nodes.size();
            case 3: return nodes.leaves();
            case 4: return row.sum(0, KEYS - 1);
            case 5: return maps.oneOf(map);
            case 6: return maps.twoOf(map);
            default: return HIDDEN;
        }
    }

    public int below(int map, int key) {
        Node root = maps.heldRoot(map);
        if (root == null) {
            return NONE;
        }
        row.fill(root);
        return row.placeOf(key);
    }

    public int near(int map, int key, int what) {
        Node root = maps.heldRoot(map);
        if (root == null) {
            return NONE;
        }
        row.fill(root);
        int place = row.placeOf(key);
        boolean there = row.holdsAt(place, key);
        switch (what) {
            case 0: return row.keyAt(there ? place : place - 1);
            case 1: return row.keyAt(place);
            case 2: return row.keyAt(place - 1);
            case 3: return row.keyAt(there ? place + 1 : place);
            default: return NONE;
        }
    }

    public int total(int map, int from, int to) {
        Node root = maps.heldRoot(map);
        if (root == null) {
            return HIDDEN;
        }
        row.fill(root);
        return row.sum(from, to);
    }

    public int node(int map, int i, int what) {
        nodes.fill(maps.heldRoot(map));
        Node found = nodes.nodeAt(i);
        if (found == null) {
            return HIDDEN;
        }
        switch (what) {
            case 0: return found.isLeaf() ? 1 : 0;
            case 1: return found.size();
            case 2: return found.lowestKey();
            case 3: return nodes.depthAt(i);
            case 4: return mapsWith(found);
            case 5: return keysIn(found, 0);
            default: return HIDDEN;
        }
    }

    private int mapsWith(Node wanted) {
        int found = 0;
        for (int map = 0; map < maps.given(); map++) {
            nodes.fill(maps.heldRoot(map));
            if (nodes.has(wanted)) {
                found++;
            }
        }
        return found;
    }

    // ---- maps made of maps

    public int having(int map, int key, int value) {
        Node root = maps.heldRoot(map);
        if (root == null) {
            return refused(NO_SUCH);
        }
        if (!isKey(key) || !isValue(value)) {
            return refused(OUT_OF_BOUNDS);
        }
        if (!fits(root, key)) {
            return refused(TOO_MANY);
        }
        if (!maps.hasRoom()) {
            return refused(NO_ROOM);
        }
        return maps.keep(grower.put(root, grower.newToken(), key, value), map, NONE);
    }

    public int lacking(int map, int key) {
        Node root = maps.heldRoot(map);
        if (root == null) {
            return refused(NO_SUCH);
        }
        if (!isKey(key)) {
            return refused(OUT_OF_BOUNDS);
        }
        if (!maps.hasRoom()) {
            return refused(NO_ROOM);
        }
        return maps.keep(grower.takeOut(root, grower.newToken(), key), map, NONE);
    }

    public int merge(int map, int other, int rule) {
        Node mine = maps.heldRoot(map);
        Node theirs = maps.heldRoot(other);
        if (mine == null || theirs == null) {
            return refused(NO_SUCH);
        }
        if (rule < 0 || rule > 3) {
            return refused(OUT_OF_BOUNDS);
        }
        row.fill(mine);
        otherRow.fillUnmarked(theirs, marked(mine));
        if (row.sizeWith(otherRow) > MOST_ENTRIES) {
            return refused(TOO_MANY);
        }
        if (!maps.hasRoom()) {
            return refused(NO_ROOM);
        }
        return maps.keep(mergedRoot(mine, rule), map, other);
    }

    /** Of the entries of row (the first map's) and otherRow (the other's alone). */
    private Node mergedRoot(Node first, int rule) {
        int token = grower.newToken();
        Node root = first;
        for (int i = 0; i < otherRow.size(); i++) {
            int key = otherRow.keyAt(i);
            int value = ruled(row.valueOf(key), otherRow.valueAt(i), rule);
            root = grower.put(root, token, key, value);
        }
        return root;
    }

    private static int ruled(int mine, int theirs, int rule) {
        if (mine == HIDDEN || rule == 1) {
            return theirs;
        }
        if (rule == 0) {
            return mine;
        }
        return rule == 2 ? Math.max(mine, theirs) : heldWithin(mine + theirs);
    }

    public int three(int base, int map, int other, int rule) {
        if (!fillThree(base, map, other)) {
            return refused(NO_SUCH);
        }
        if (rule < 0 || rule > 2) {
            return refused(OUT_OF_BOUNDS);
        }
        if (sizeOfThree(rule) > MOST_ENTRIES) {
            return refused(TOO_MANY);
        }
        if (!maps.hasRoom()) {
            return refused(NO_ROOM);
        }
        return maps.keep(rootOfThree(maps.heldRoot(map), rule), map, other);
    }

    public int conflicts(int base, int map, int other) {
        if (!fillThree(base, map, other)) {
            return NONE;
        }
        int found = 0;
        int key = lowestAbove(baseRow, otherRow, NONE);
        for (int i = 0; i < KEYS && key != NONE; i++) {
            if (isConflict(key)) {
                found++;
            }
            key = lowestAbove(baseRow, otherRow, key);
        }
        return found;
    }

    /** The base's entries come to baseRow, the one's to row, the other's to otherRow. */
    private boolean fillThree(int base, int map, int other) {
        Node root = maps.heldRoot(base);
        if (root == null || !fillTwo(map, other)) {
            return false;
        }
        baseRow.fill(root);
        return true;
    }

    private boolean isAsked(int key) {
        int theirs = otherRow.valueOf(key);
        return theirs != baseRow.valueOf(key) && theirs != row.valueOf(key);
    }

    private boolean isConflict(int key) {
        return isAsked(key) && row.valueOf(key) != baseRow.valueOf(key);
    }

    /** The value that THREE gives to a key (HIDDEN: it is not there). */
    private int valueOfThree(int key, int rule) {
        if (!isAsked(key)) {
            return row.valueOf(key);
        }
        if (rule == 1 || !isConflict(key)) {
            return otherRow.valueOf(key);
        }
        return rule == 0 ? row.valueOf(key) : baseRow.valueOf(key);
    }

    private int sizeOfThree(int rule) {
        int size = row.size();
        int key = lowestAbove(baseRow, otherRow, NONE);
        for (int i = 0; i < KEYS && key != NONE; i++) {
            boolean was = row.valueOf(key) != HIDDEN;
            boolean comes = valueOfThree(key, rule) != HIDDEN;
            if (was != comes) {
                size += comes ? 1 : -1;
            }
            key = lowestAbove(baseRow, otherRow, key);
        }
        return size;
    }

    private Node rootOfThree(Node one, int rule) {
        int token = grower.newToken();
        Node root = one;
        int key = lowestAbove(baseRow, otherRow, NONE);
        for (int i = 0; i < KEYS && key != NONE; i++) {
            int value = valueOfThree(key, rule);
            root = value == HIDDEN ? grower.takeOut(root, token, key) : grower.put(root, token, key, value);
            key = lowestAbove(baseRow, otherRow, key);
        }
        return root;
    }

    public int slice(int map, int from, int to) {
        Node root = maps.heldRoot(map);
        if (root == null) {
            return refused(NO_SUCH);
        }
        if (!isRange(from, to)) {
            return refused(OUT_OF_BOUNDS);
        }
        if (!maps.hasRoom()) {
            return refused(NO_ROOM);
        }
        int token = grower.newToken();
        row.fill(root);
        for (int i = 0; i < row.size(); i++) {
            int key = row.keyAt(i);
            if (key < from || key > to) {
                root = grower.takeOut(root, token, key);
            }
        }
        return maps.keep(root, map, NONE);
    }

    public int drop(int map) {
        if (maps.heldRoot(map) == null) {
            return refused(NO_SUCH);
        }
        maps.release(map);
        return maps.held();
    }

    // ---- builders

    public int build(int builder, int map) {
        Builder chosen = builderAt(builder);
        Node root = maps.heldRoot(map);
        if (chosen == null || root == null) {
            return refused(NO_SUCH);
        }
        chosen.open(root, grower.newToken(), map);
        nodes.fill(root);
        return nodes.size();
    }

    public int lay(int builder, int key, int value) {
        Builder chosen = builderAt(builder);
        int why = objection(chosen, isKey(key) && isValue(value));
        if (chosen == null || why != NONE) {
            return refused(why);
        }
        int before = grower.made();
        return isPut(chosen, key, value) ? grower.made() - before : refused(TOO_MANY);
    }

    public int take(int builder, int key) {
        Builder chosen = builderAt(builder);
        int why = objection(chosen, isKey(key));
        if (chosen == null || why != NONE) {
            return refused(why);
        }
        int before = grower.made();
        cutRange(chosen, key, key);
        return grower.made() - before;
    }

    public int add(int builder, int key, int value) {
        Builder chosen = builderAt(builder);
        int why = objection(chosen, isKey(key) && isValue(value));
        if (chosen == null || why != NONE) {
            return refused(why);
        }
        int before = grower.made();
        return isAdded(chosen, key, value) ? grower.made() - before : refused(TOO_MANY);
    }

    public int cut(int builder, int from, int to) {
        Builder chosen = builderAt(builder);
        int why = objection(chosen, isRange(from, to));
        if (chosen == null || why != NONE) {
            return refused(why);
        }
        int before = grower.made();
        cutRange(chosen, from, to);
        return grower.made() - before;
    }

    public int inc(int builder, int from, int to, int value) {
        Builder chosen = builderAt(builder);
        int why = objection(chosen, isRange(from, to) && isValue(value));
        if (chosen == null || why != NONE) {
            return refused(why);
        }
        int before = grower.made();
        raiseRange(chosen, from, to, value);
        return grower.made() - before;
    }

    /** The first reason for which a builder can't be changed (NONE: none). */
    private static int objection(Builder chosen, boolean inBounds) {
        if (chosen == null) {
            return NO_SUCH;
        }
        if (!inBounds) {
            return OUT_OF_BOUNDS;
        }
        return chosen.isStale() ? STALE : NONE;
    }

    /** False: there would be too many keys. */
    private boolean isPut(Builder chosen, int key, int value) {
        if (!fits(chosen.root(), key)) {
            return false;
        }
        chosen.change(grower.put(chosen.root(), chosen.token(), key, value));
        return true;
    }

    private boolean isAdded(Builder chosen, int key, int value) {
        if (!fits(chosen.root(), key)) {
            return false;
        }
        int old = valueIn(chosen.root(), key);
        int sum = old == HIDDEN ? value : heldWithin(old + value);
        chosen.change(grower.put(chosen.root(), chosen.token(), key, sum));
        return true;
    }

    private void cutRange(Builder chosen, int from, int to) {
        row.fill(chosen.root());
        for (int i = 0; i < row.size(); i++) {
            int key = row.keyAt(i);
            if (key >= from && key <= to) {
                chosen.change(grower.takeOut(chosen.root(), chosen.token(), key));
            }
        }
    }

    private void raiseRange(Builder chosen, int from, int to, int value) {
        row.fill(chosen.root());
        for (int i = 0; i < row.size(); i++) {
            int key = row.keyAt(i);
            if (key >= from && key <= to) {
                int sum = heldWithin(row.valueAt(i) + value);
                chosen.change(grower.put(chosen.root(), chosen.token(), key, sum));
            }
        }
    }

    public int snap(int builder) {
        Builder chosen = builderAt(builder);
        int why = objection(chosen, true);
        if (chosen == null || why != NONE) {
            return refused(why);
        }
        int number = snapped(chosen);
        return number == NONE ? refused(NO_ROOM) : number;
    }

    public int freeze(int builder) {
        Builder chosen = builderAt(builder);
        int why = objection(chosen, true);
        if (chosen == null || why != NONE) {
            return refused(why);
        }
        int number = snapped(chosen);
        if (number == NONE) {
            return refused(NO_ROOM);
        }
        chosen.close();
        return number;
    }

    /** The number of the new map; NONE: there is no room. */
    private int snapped(Builder chosen) {
        if (!maps.hasRoom()) {
            return NONE;
        }
        int number = maps.keep(chosen.root(), chosen.from(), NONE);
        chosen.open(chosen.root(), grower.newToken(), number);
        return number;
    }

    public int peek(int builder, int key) {
        Builder chosen = builderAt(builder);
        return chosen == null ? HIDDEN : valueIn(chosen.root(), key);
    }

    public int builder(int builder, int what) {
        Builder chosen = builderAt(builder);
        if (chosen == null || chosen.isStale()) {
            return HIDDEN;
        }
        nodes.fill(chosen.root());
        switch (what) {
            case 0: return keysIn(chosen.root(), 0);
            case 1: return nodes.size();
            case 2: return nodes.sizeOf(chosen.token());
            case 3: return chosen.from();
            default: return HIDDEN;
        }
    }

    public int draws(int builder, int n, long seed) {
        Builder chosen = builderAt(builder);
        int why = objection(chosen, n >= 1 && n <= MOST_DRAWS);
        if (chosen == null || why != NONE) {
            return refused(why);
        }
        int before = grower.made();
        long x = seed;
        for (int i = 0; i < n; i++) {
            x = stirred(x);
            int what = drawn(x, 4);
            x = stirred(x);
            int key = drawn(x, 100);
            x = stirred(x);
            int value = drawn(x, 19) - 9;
            // What there is no room for is left out, and not counted as refused.
            if (what <= 1) {
                isPut(chosen, key, value);
            } else if (what == 2) {
                isAdded(chosen, key, value);
            } else {
                cutRange(chosen, key, key);
            }
        }
        return grower.made() - before;
    }

    private static long stirred(long x) {
        return x * DRAW_FACTOR + DRAW_STEP;
    }

    private static int drawn(long x, int j) {
        return j <= 0 ? 0 : (int) ((x >>> 33) % j);
    }

    // ---- programs

    public int step(int program, int i, int what) {
        Program chosen = programAt(program);
        return chosen == null ? HIDDEN : chosen.cell(i, what);
    }

    public int run(int program, int builder) {
        Program steps = programAt(program);
        Builder chosen = builderAt(builder);
        if (steps == null || chosen == null) {
            return refused(NO_SUCH);
        }
        if (chosen.isStale()) {
            return refused(STALE);
        }
        boolean canBe = true;
        int done = 0;
        while (done < steps.size() && canBe) {
            int a = steps.cell(done, 1);
            int b = steps.cell(done, 2);
            int c = steps.cell(done, 3);
            switch (steps.cell(done, 0)) {
                case PUT: canBe = isPut(chosen, a, b); break;
                case DEL: cutRange(chosen, a, a); break;
                case ADD: canBe = isAdded(chosen, a, b); break;
                case CUT: cutRange(chosen, a, b); break;
                case INC: raiseRange(chosen, a, b, c); break;
                default: canBe = snapped(chosen) != NONE; break;
            }
            done++;
        }
        return canBe ? done : done - 1;
    }

    // ---- two maps

    public int shared(int map, int other) {
        Node mine = maps.heldRoot(map);
        Node theirs = maps.heldRoot(other);
        return mine == null || theirs == null ? NONE : sharedNodes(mine, theirs);
    }

    public int looked(int map, int other) {
        Node mine = maps.heldRoot(map);
        Node theirs = maps.heldRoot(other);
        if (mine == null || theirs == null) {
            return NONE;
        }
        int both = sharedNodes(mine, theirs);
        nodes.fill(mine);
        int all = nodes.size();
        nodes.fill(theirs);
        return all + nodes.size() - 2 * both;
    }

    private int sharedNodes(Node mine, Node theirs) {
        int mark = marked(mine);
        nodes.fill(theirs);
        return nodes.size() - nodes.mark(mark);
    }

    /** A new mark, which all nodes below a root bear and no others. */
    private int marked(Node root) {
        marks++;
        nodes.fill(root);
        nodes.mark(marks);
        return marks;
    }

    public int difference(int map, int other, int i, int what) {
        if (!fillTwo(map, other)) {
            return HIDDEN;
        }
        int found = 0;
        int key = lowestAbove(row, otherRow, NONE);
        for (int k = 0; k < KEYS && key != NONE; k++) {
            if (row.valueOf(key) != otherRow.valueOf(key)) {
                if (found == i) {
                    return partOfDifference(key, what);
                }
                found++;
            }
            key = lowestAbove(row, otherRow, key);
        }
        return i == NONE ? found : HIDDEN;
    }

    private int partOfDifference(int key, int what) {
        switch (what) {
            case 0: return key;
            case 1: return row.valueOf(key);
            case 2: return otherRow.valueOf(key);
            default: return HIDDEN;
        }
    }

    /** The one's entries come to row, the other's to otherRow. */
    private boolean fillTwo(int map, int other) {
        Node mine = maps.heldRoot(map);
        Node theirs = maps.heldRoot(other);
        if (mine == null || theirs == null) {
            return false;
        }
        row.fill(mine);
        otherRow.fill(theirs);
        return true;
    }

    public int alike(int map, int other, int what) {
        if (what < 0 || what > 1 || !fillTwo(map, other)) {
            return NONE;
        }
        if (what == 0) {
            return row.isSameAs(otherRow) ? 1 : 0;
        }
        sheet.write(maps.heldRoot(map));
        otherSheet.write(maps.heldRoot(other));
        return sheet.isSameAs(otherSheet) ? 1 : 0;
    }

    public int fork(int map, int other) {
        if (maps.heldRoot(map) == null || maps.heldRoot(other) == null) {
            return NONE;
        }
        return maps.highestBehind(map, other);
    }

    public int comesFrom(int map, int number) {
        if (maps.heldRoot(map) == null || number < 0 || number >= maps.given()) {
            return NONE;
        }
        // A map and one that it comes from have that one as their fork.
        return maps.highestBehind(map, number) == number ? 1 : 0;
    }

    // ---- shown

    public int show(int map) {
        Node root = maps.heldRoot(map);
        if (root == null) {
            return NONE;
        }
        latest.write(root);
        return latest.size();
    }

    public int shown(int i) {
        return latest.signAt(i);
    }

    public int digest(int map) {
        Node root = maps.heldRoot(map);
        if (root == null) {
            return NONE;
        }
        sheet.write(root);
        return sheet.hashed();
    }

    // ---- the whole

    public int status(int what) {
        return what >= 0 && what < refusals.length ? refusals[what] : NONE;
    }

    public int image() {
        maps.keepImage();
        return maps.held();
    }

    public int back() {
        if (!maps.restoreImage()) {
            return NONE;
        }
        closeBuilders();
        return maps.held();
    }

    public int count(int what) {
        switch (what) {
            case 0: return grower.width();
            case 1: return maps.held();
            case 2: return maps.given();
            case 3: return grower.made();
            case 4: return liveNodes();
            case 5: return programCount;
            case 6: return tape.size();
            case 7: return openBuilders();
            default: return HIDDEN;
        }
    }

    private int liveNodes() {
        marks++;
        int live = 0;
        for (int map = 0; map < maps.given(); map++) {
            nodes.fill(maps.heldRoot(map));
            live += nodes.mark(marks);
        }
        for (int i = 0; i < MOST_BUILDERS; i++) {
            Builder chosen = builderAt(i);
            if (chosen != null) {
                nodes.fill(chosen.root());
                live += nodes.mark(marks);
            }
        }
        return live;
    }

    private int openBuilders() {
        int bits = 0;
        for (int i = 0; i < MOST_BUILDERS; i++) {
            Builder chosen = builderAt(i);
            if (chosen != null && !chosen.isStale()) {
                bits |= 1 << i;
            }
        }
        return bits;
    }

    private void closeBuilders() {
        for (int i = 0; i < MOST_BUILDERS; i++) {
            Builder chosen = builderAt(i);
            if (chosen != null) {
                chosen.close();
            }
        }
    }

    private int refused(int why) {
        if (why >= 0 && why < refusals.length) {
            refusals[why]++;
        }
        return NONE;
    }

    private Builder builderAt(int i) {
        return i >= 0 && i < builders.length ? builders[i] : null;
    }

    private Program programAt(int i) {
        return i >= 0 && i < programs.length ? programs[i] : null;
    }

    private static boolean isKey(int key) {
        return key >= 0 && key < KEYS;
    }

    private static boolean isValue(int value) {
        return value >= -MOST_VALUE && value <= MOST_VALUE;
    }

    private static boolean isRange(int from, int to) {
        return isKey(from) && isKey(to) && from <= to;
    }

    private static int heldWithin(int value) {
        return Math.max(-MOST_VALUE, Math.min(MOST_VALUE, value));
    }

    private static boolean fits(Node root, int key) {
        return valueIn(root, key) != HIDDEN || keysIn(root, 0) < MOST_ENTRIES;
    }

    private static int valueIn(Node root, int key) {
        Node node = root;
        for (int i = 0; i < DEEPEST && node != null && !node.isLeaf(); i++) {
            node = node.kidAt(node.placeOfKid(key));
        }
        return node == null ? HIDDEN : node.valueOf(key);
    }

    private static int keysIn(Node node, int depth) {
        if (node == null || depth >= DEEPEST) {
            return 0;
        }
        if (node.isLeaf()) {
            return node.size();
        }
        int keys = 0;
        for (int i = 0; i < node.size(); i++) {
            keys += keysIn(node.kidAt(i), depth + 1);
        }
        return keys;
    }

    /** The lowest key of two rows above one (NONE: none). */
    private static int lowestAbove(Row one, Row two, int key) {
        int a = one.keyAt(one.placeOf(key + 1));
        int b = two.keyAt(two.placeOf(key + 1));
        if (a == NONE || b == NONE) {
            return Math.max(a, b);
        }
        return Math.min(a, b);
    }

    /** A leaf (entries) or an inner node (kids); only what has its token may change it. */
    private static final class Node {
        private final int token;
        private final int[] entries;
        private final Node[] kids;
        private int size;
        private int mark;

        Node(boolean leaf, int token) {
            this.token = token;
            entries = leaf ? new int[2 * SLOTS] : null;
            kids = leaf ? null : new Node[SLOTS];
        }

        /** A copy that has a token of its own. */
        Node(Node other, int token) {
            this.token = token;
            entries = other.entries == null ? null : other.entries.clone();
            kids = other.kids == null ? null : other.kids.clone();
            size = other.size;
        }

        boolean isLeaf() {
            return entries != null;
        }

        int size() {
            return size;
        }

        int token() {
            return token;
        }

        boolean bears(int wanted) {
            return mark == wanted;
        }

        void bear(int newMark) {
            mark = newMark;
        }

        int keyAt(int i) {
            return entries != null && i >= 0 && i < size && i < SLOTS ? entries[2 * i] : NONE;
        }

        int valueAt(int i) {
            return entries != null && i >= 0 && i < size && i < SLOTS ? entries[2 * i + 1] : HIDDEN;
        }

        Node kidAt(int i) {
            return kids != null && i >= 0 && i < size && i < SLOTS ? kids[i] : null;
        }

        int valueOf(int key) {
            int i = placeOfKey(key);
            return i < size && keyAt(i) == key ? valueAt(i) : HIDDEN;
        }

        /** How many entries of this leaf are below a key. */
        private int placeOfKey(int key) {
            int i = 0;
            while (i < size && keyAt(i) < key) {
                i++;
            }
            return i;
        }

        /** Which child a key belongs to. */
        int placeOfKid(int key) {
            int place = 0;
            for (int i = 1; i < size; i++) {
                Node kid = kidAt(i);
                if (kid != null && kid.lowestKey() <= key) {
                    place = i;
                }
            }
            return place;
        }

        int lowestKey() {
            Node node = this;
            for (int i = 0; i < DEEPEST && node != null && !node.isLeaf(); i++) {
                node = node.kidAt(0);
            }
            return node == null ? NONE : node.keyAt(0);
        }

        void setEntry(int key, int value) {
            int i = placeOfKey(key);
            if (entries == null || i >= SLOTS) {
                return;
            }
            if (i >= size || keyAt(i) != key) {
                openSlot(i);
            }
            entries[2 * i] = key;
            entries[2 * i + 1] = value;
        }

        void removeEntry(int key) {
            int i = placeOfKey(key);
            if (i < size && keyAt(i) == key) {
                closeSlot(i);
            }
        }

        void setKid(int i, Node kid) {
            if (kids != null && i >= 0 && i < SLOTS) {
                kids[i] = kid;
            }
        }

        void insertKid(int i, Node kid) {
            openSlot(i);
            setKid(i, kid);
        }

        void removeKid(int i) {
            closeSlot(i);
        }

        private void openSlot(int at) {
            if (at < 0 || at > size || size >= SLOTS) {
                return;
            }
            for (int i = size; i > at; i--) {
                copySlot(i, this, i - 1);
            }
            size++;
        }

        private void closeSlot(int at) {
            if (at < 0 || at >= size) {
                return;
            }
            for (int i = at; i < size - 1; i++) {
                copySlot(i, this, i + 1);
            }
            size--;
        }

        private void copySlot(int to, Node from, int at) {
            if (to < 0 || to >= SLOTS || at < 0 || at >= SLOTS) {
                return;
            }
            if (entries != null && from.entries != null) {
                entries[2 * to] = from.entries[2 * at];
                entries[2 * to + 1] = from.entries[2 * at + 1];
            }
            if (kids != null && from.kids != null) {
                kids[to] = from.kids[at];
            }
        }

        private void append(Node from, int at) {
            if (size < SLOTS) {
                copySlot(size, from, at);
                size++;
            }
        }

        void moveLastToFirst(Node from) {
            openSlot(0);
            copySlot(0, from, from.size - 1);
            from.closeSlot(from.size - 1);
        }

        void moveFirstToLast(Node from) {
            append(from, 0);
            from.closeSlot(0);
        }

        void appendAll(Node from) {
            for (int i = 0; i < from.size; i++) {
                append(from, i);
            }
        }

        /** The last n of another one come to be all of this. */
        void moveLast(Node from, int n) {
            int stays = from.size - n;
            if (n < 0 || stays < 0) {
                return;
            }
            for (int i = stays; i < from.size; i++) {
                append(from, i);
            }
            from.size = stays;
        }
    }

    /** Makes nodes; puts into trees and takes out of them by a token. */
    private static final class Grower {
        private int width = FIRST_WIDTH;
        private int made;
        private int tokens;

        void open(int newWidth) {
            width = newWidth;
            made = 0;
        }

        int width() {
            return width;
        }

        int made() {
            return made;
        }

        int newToken() {
            return tokens++;
        }

        Node newNode(boolean leaf, int token) {
            made++;
            return new Node(leaf, token);
        }

        private int least() {
            return (width + 1) / 2;
        }

        private Node edited(Node node, int token) {
            if (node.token() == token) {
                return node;
            }
            made++;
            return new Node(node, token);
        }

        /** The child at i, edited and in its place (null: there is none). */
        private Node editedKid(Node node, int i, int token) {
            Node kid = node.kidAt(i);
            if (kid == null) {
                return null;
            }
            Node own = edited(kid, token);
            node.setKid(i, own);
            return own;
        }

        Node put(Node root, int token, int key, int value) {
            if (root == null || valueIn(root, key) == value) {
                return root;
            }
            Node top = edited(root, token);
            Node behind = putBelow(this, top, token, key, value, 0);
            if (behind == null) {
                return top;
            }
            Node above = newNode(false, token);
            above.insertKid(0, top);
            above.insertKid(1, behind);
            return above;
        }

        /** The new node that comes next behind this one (null: it was not parted). */
        private static Node putBelow(Grower grower, Node node, int token, int key, int value, int depth) {
            if (node == null || depth >= DEEPEST) {
                return null;
            }
            if (node.isLeaf()) {
                node.setEntry(key, value);
            } else {
                int i = node.placeOfKid(key);
                Node kid = grower.editedKid(node, i, token);
                Node behind = putBelow(grower, kid, token, key, value, depth + 1);
                if (behind != null) {
                    node.insertKid(i + 1, behind);
                }
            }
            return node.size() > grower.width ? grower.parted(node, token) : null;
        }

        private Node parted(Node node, int token) {
            Node behind = newNode(node.isLeaf(), token);
            behind.moveLast(node, least());
            return behind;
        }

        Node takeOut(Node root, int token, int key) {
            if (root == null || valueIn(root, key) == HIDDEN) {
                return root;
            }
            Node top = edited(root, token);
            takeBelow(this, top, token, key, 0);
            return !top.isLeaf() && top.size() == 1 ? top.kidAt(0) : top;
        }

        private static void takeBelow(Grower grower, Node node, int token, int key, int depth) {
            if (node == null || depth >= DEEPEST) {
                return;
            }
            if (node.isLeaf()) {
                node.removeEntry(key);
                return;
            }
            int i = node.placeOfKid(key);
            Node kid = grower.editedKid(node, i, token);
            takeBelow(grower, kid, token, key, depth + 1);
            if (kid != null && kid.size() < grower.least()) {
                grower.refill(node, i, kid, token);
            }
        }

        /** The kid at i has fewer than the least. */
        private void refill(Node node, int i, Node kid, int token) {
            Node ahead = node.kidAt(i - 1);
            Node behind = node.kidAt(i + 1);
            if (ahead != null && ahead.size() > least()) {
                Node giver = edited(ahead, token);
                node.setKid(i - 1, giver);
                kid.moveLastToFirst(giver);
            } else if (behind != null && behind.size() > least()) {
                Node giver = edited(behind, token);
                node.setKid(i + 1, giver);
                kid.moveFirstToLast(giver);
            } else if (ahead != null) {
                Node taker = edited(ahead, token);
                taker.appendAll(kid);
                node.setKid(i - 1, taker);
                node.removeKid(i);
            } else if (behind != null) {
                kid.appendAll(behind);
                node.removeKid(i + 1);
            }
        }
    }

    /** The nodes below a root as they are numbered, each with its depth. */
    private static final class Listing {
        private final Node[] nodes;
        private final int[] depths;
        private int size;

        Listing() {
            nodes = new Node[MOST_NODES];
            depths = new int[MOST_NODES];
        }

        /** No nodes, where there is no root. */
        void fill(Node root) {
            size = 0;
            list(this, root, 0);
        }

        private static void list(Listing listing, Node node, int depth) {
            if (node == null || depth >= DEEPEST) {
                return;
            }
            listing.append(node, depth);
            if (node.isLeaf()) {
                return;
            }
            for (int i = 0; i < node.size(); i++) {
                list(listing, node.kidAt(i), depth + 1);
            }
        }

        private void append(Node node, int depth) {
            if (size < nodes.length && size < depths.length) {
                nodes[size] = node;
                depths[size] = depth;
                size++;
            }
        }

        int size() {
            return size;
        }

        Node nodeAt(int i) {
            return i >= 0 && i < size && i < nodes.length ? nodes[i] : null;
        }

        int depthAt(int i) {
            return i >= 0 && i < size && i < depths.length ? depths[i] : NONE;
        }

        /** All leaves are as deep as the last node, which is one. */
        int levels() {
            return depthAt(size - 1) + 1;
        }

        int leaves() {
            int found = 0;
            for (int i = 0; i < size; i++) {
                Node node = nodeAt(i);
                if (node != null && node.isLeaf()) {
                    found++;
                }
            }
            return found;
        }

        int sizeOf(int token) {
            int found = 0;
            for (int i = 0; i < size; i++) {
                Node node = nodeAt(i);
                if (node != null && node.token() == token) {
                    found++;
                }
            }
            return found;
        }

        boolean has(Node wanted) {
            for (int i = 0; i < size; i++) {
                if (nodeAt(i) == wanted) {
                    return true;
                }
            }
            return false;
        }

        /** All bear the mark then; how many did not yet. */
        int mark(int mark) {
            int found = 0;
            for (int i = 0; i < size; i++) {
                Node node = nodeAt(i);
                if (node != null && !node.bears(mark)) {
                    node.bear(mark);
                    found++;
                }
            }
            return found;
        }
    }

    /** Entries one behind the other: those of a map, rising, or those of a text as they were told. */
    private static final class Row {
        private final int[] keys;
        private final int[] values;
        private int size;

        Row() {
            keys = new int[MOST_ENTRIES];
            values = new int[MOST_ENTRIES];
        }

        void clear() {
            size = 0;
        }

        void append(int key, int value) {
            if (size < keys.length && size < values.length) {
                keys[size] = key;
                values[size] = value;
                size++;
            }
        }

        /** No entries, where there is no root. */
        void fill(Node root) {
            fillUnmarked(root, NONE);
        }

        /** Only what lies in leaves without the mark. */
        void fillUnmarked(Node root, int mark) {
            size = 0;
            collect(this, root, mark, 0);
        }

        private static void collect(Row row, Node node, int mark, int depth) {
            if (node == null || depth >= DEEPEST) {
                return;
            }
            for (int i = 0; i < node.size(); i++) {
                if (!node.isLeaf()) {
                    collect(row, node.kidAt(i), mark, depth + 1);
                } else if (!node.bears(mark)) {
                    row.append(node.keyAt(i), node.valueAt(i));
                }
            }
        }

        int size() {
            return size;
        }

        int keyAt(int i) {
            return i >= 0 && i < size && i < keys.length ? keys[i] : NONE;
        }

        int valueAt(int i) {
            return i >= 0 && i < size && i < values.length ? values[i] : HIDDEN;
        }

        boolean holdsAt(int i, int key) {
            return i >= 0 && i < size && keyAt(i) == key;
        }

        /** How many keys are below one (where the next at or above it stands). */
        int placeOf(int key) {
            int low = 0;
            int high = size;
            for (int i = 0; i < MOST_ENTRIES && low < high; i++) {
                int middle = (low + high) >> 1;
                if (keyAt(middle) < key) {
                    low = middle + 1;
                } else {
                    high = middle;
                }
            }
            return low;
        }

        int valueOf(int key) {
            int i = placeOf(key);
            return holdsAt(i, key) ? valueAt(i) : HIDDEN;
        }

        int sum(int from, int to) {
            int sum = 0;
            for (int i = 0; i < size; i++) {
                if (keyAt(i) >= from && keyAt(i) <= to) {
                    sum += valueAt(i);
                }
            }
            return sum;
        }

        /** How many keys both rows have together. */
        int sizeWith(Row other) {
            int sum = size;
            for (int i = 0; i < other.size; i++) {
                if (valueOf(other.keyAt(i)) == HIDDEN) {
                    sum++;
                }
            }
            return sum;
        }

        boolean isSameAs(Row other) {
            if (size != other.size) {
                return false;
            }
            for (int i = 0; i < size; i++) {
                if (keyAt(i) != other.keyAt(i) || valueAt(i) != other.valueAt(i)) {
                    return false;
                }
            }
            return true;
        }
    }

    /** All maps by their numbers, which are held, what each comes from, the image. */
    private static final class Maps {
        private final Node[] roots;
        private final int[] ones;
        private final int[] twos;
        private final boolean[] held;
        private final boolean[] imaged;
        private final int[] lines;
        private boolean hasImage;
        private int given;
        private int heldCount;

        Maps() {
            roots = new Node[NUMBERS];
            ones = new int[NUMBERS];
            twos = new int[NUMBERS];
            held = new boolean[NUMBERS];
            imaged = new boolean[NUMBERS];
            lines = new int[NUMBERS];
        }

        void open() {
            for (int i = 0; i < NUMBERS; i++) {
                held[i] = false;
                imaged[i] = false;
                roots[i] = null;
            }
            hasImage = false;
            given = 0;
            heldCount = 0;
        }

        int given() {
            return given;
        }

        int held() {
            return heldCount;
        }

        boolean hasRoom() {
            return heldCount < MOST_HELD && given < NUMBERS;
        }

        int keep(Node root, int one, int two) {
            if (given < 0 || given >= NUMBERS) {
                return NONE;
            }
            roots[given] = root;
            ones[given] = one;
            twos[given] = two;
            held[given] = true;
            heldCount++;
            return given++;
        }

        /** Null, where no such map is held. */
        Node heldRoot(int map) {
            return map >= 0 && map < given && map < NUMBERS && held[map] ? roots[map] : null;
        }

        void release(int map) {
            if (map >= 0 && map < NUMBERS && held[map]) {
                held[map] = false;
                heldCount--;
            }
        }

        int oneOf(int map) {
            return map >= 0 && map < given && map < NUMBERS ? ones[map] : NONE;
        }

        int twoOf(int map) {
            return map >= 0 && map < given && map < NUMBERS ? twos[map] : NONE;
        }

        void keepImage() {
            hasImage = true;
            for (int i = 0; i < NUMBERS; i++) {
                imaged[i] = held[i];
            }
        }

        boolean restoreImage() {
            if (!hasImage) {
                return false;
            }
            heldCount = 0;
            for (int i = 0; i < NUMBERS; i++) {
                held[i] = imaged[i];
                heldCount += imaged[i] ? 1 : 0;
            }
            return true;
        }

        /** The highest number from which both come. What a map comes from has a lower number than it. */
        int highestBehind(int map, int other) {
            for (int i = 0; i < NUMBERS; i++) {
                lines[i] = 0;
            }
            join(map, 1);
            join(other, 2);
            for (int i = NUMBERS - 1; i >= 0; i--) {
                if (lines[i] == 3) {
                    return i;
                }
                if (lines[i] != 0) {
                    join(oneOf(i), lines[i]);
                    join(twoOf(i), lines[i]);
                }
            }
            return NONE;
        }

        private void join(int map, int line) {
            if (map >= 0 && map < NUMBERS) {
                lines[map] |= line;
            }
        }
    }

    /** A root that changes, its token, the map it comes from; without a root it is stale. */
    private static final class Builder {
        private Node root;
        private int token;
        private int from;

        void open(Node newRoot, int newToken, int map) {
            root = newRoot;
            token = newToken;
            from = map;
        }

        void close() {
            root = null;
        }

        void change(Node newRoot) {
            root = newRoot;
        }

        boolean isStale() {
            return root == null;
        }

        Node root() {
            return root;
        }

        int token() {
            return token;
        }

        int from() {
            return from;
        }
    }

    /** The steps of a program, each as its word and three numbers (HIDDEN: it has fewer). */
    private static final class Program {
        private final int[] cells;
        private int size;

        Program() {
            cells = new int[MOST_STEPS * CELLS];
        }

        void clear() {
            size = 0;
        }

        void append(int word) {
            if (size < MOST_STEPS) {
                cells[size * CELLS] = word;
                for (int i = 1; i < CELLS; i++) {
                    cells[size * CELLS + i] = HIDDEN;
                }
                size++;
            }
        }

        /** Of the last step. */
        void setNumber(int i, int number) {
            if (size > 0 && size <= MOST_STEPS && i > 0 && i < CELLS) {
                cells[(size - 1) * CELLS + i] = number;
            }
        }

        int size() {
            return size;
        }

        int cell(int i, int what) {
            if (i < 0 || i >= size || i >= MOST_STEPS || what < 0 || what >= CELLS) {
                return HIDDEN;
            }
            return cells[i * CELLS + what];
        }
    }

    /** The bytes that were fed. */
    private static final class Tape {
        private final int[] bytes;
        private int size;

        Tape() {
            bytes = new int[MOST_BYTES];
        }

        static int signsIn(int number) {
            int signs = 0;
            for (int shift = 24; shift >= 0; shift -= 8) {
                if (((number >>> shift) & 255) != 0) {
                    signs++;
                }
            }
            return signs;
        }

        void append(int number) {
            for (int shift = 24; shift >= 0; shift -= 8) {
                int sign = (number >>> shift) & 255;
                if (sign != 0 && size < bytes.length) {
                    bytes[size] = sign;
                    size++;
                }
            }
        }

        boolean shorten(int n) {
            if (n < 0 || n > size) {
                return false;
            }
            size = n;
            return true;
        }

        int size() {
            return size;
        }

        /** NONE behind the last one. */
        int byteAt(int i) {
            return i >= 0 && i < size && i < bytes.length ? bytes[i] : NONE;
        }
    }

    /** Reads the tape; where it can't go on, it stands at the fault. */
    private static final class Reader {
        private final Tape tape;
        private int at;

        Reader(Tape tape) {
            this.tape = tape;
        }

        /** The fault (NONE: none); the entries come to a row. */
        int readEntries(Row told) {
            told.clear();
            at = 0;
            skipBlanks();
            if (hasEnded()) {
                return NONE;
            }
            for (int i = 0; i < MOST_BYTES; i++) {
                if (!readEntry(told)) {
                    return at;
                }
                skipBlanks();
                if (hasEnded()) {
                    return NONE;
                }
                if (!passes(',')) {
                    return at;
                }
            }
            return at;
        }

        private boolean readEntry(Row told) {
            int key = readNumber(false);
            if (key == HIDDEN || !passes(':')) {
                return false;
            }
            int value = readNumber(true);
            if (value == HIDDEN) {
                return false;
            }
            told.append(key, value);
            return true;
        }

        /** The fault (NONE: none); the steps come to a program. */
        int readSteps(Program told) {
            told.clear();
            at = 0;
            for (int i = 1; i <= MOST_STEPS; i++) {
                if (!readStep(told)) {
                    return at;
                }
                skipBlanks();
                if (hasEnded()) {
                    return NONE;
                }
                if (i == MOST_STEPS || !passes(';')) {
                    return at;
                }
            }
            return at;
        }

        private boolean readStep(Program told) {
            int word = readWord();
            if (word < 0 || word >= KEYS_OF_WORD.length || word >= VALUES_OF_WORD.length) {
                return false;
            }
            told.append(word);
            int keys = KEYS_OF_WORD[word];
            int numbers = keys + VALUES_OF_WORD[word];
            for (int i = 1; i <= numbers; i++) {
                int number = readNumber(i > keys);
                if (number == HIDDEN) {
                    return false;
                }
                told.setNumber(i, number);
            }
            return true;
        }

        /** NONE: no word goes on so. */
        private int readWord() {
            skipBlanks();
            int word = wordBeginning(tape.byteAt(at));
            String letters = lettersOf(word);
            for (int i = 0; i < letters.length(); i++) {
                if (tape.byteAt(at) != letters.charAt(i)) {
                    return NONE;
                }
                at++;
            }
            return word;
        }

        private static int wordBeginning(int letter) {
            switch (letter) {
                case 'p': return PUT;
                case 'd': return DEL;
                case 'a': return ADD;
                case 'c': return CUT;
                case 'i': return INC;
                case 's': return SNAP;
                default: return NONE;
            }
        }

        private static String lettersOf(int word) {
            switch (word) {
                case PUT: return "put";
                case DEL: return "del";
                case ADD: return "add";
                case CUT: return "cut";
                case INC: return "inc";
                case SNAP: return "snap";
                default: return "";
            }
        }

        /** HIDDEN: no number goes on so. */
        private int readNumber(boolean mayBeLess) {
            skipBlanks();
            boolean less = mayBeLess && tape.byteAt(at) == '-';
            if (less) {
                at++;
            }
            int number = 0;
            int digits = 0;
            while (digits < 3 && isDigit(tape.byteAt(at))) {
                number = number * 10 + tape.byteAt(at) - '0';
                at++;
                digits++;
            }
            if (digits == 0 || isDigit(tape.byteAt(at))) {
                return HIDDEN;
            }
            return less ? -number : number;
        }

        private boolean passes(char sign) {
            skipBlanks();
            if (tape.byteAt(at) != sign) {
                return false;
            }
            at++;
            return true;
        }

        private void skipBlanks() {
            for (int i = 0; i < MOST_BYTES && tape.byteAt(at) == ' '; i++) {
                at++;
            }
        }

        private boolean hasEnded() {
            return at >= tape.size();
        }

        private static boolean isDigit(int sign) {
            return sign >= '0' && sign <= '9';
        }
    }

    /** A map as a text, sign by sign. */
    private static final class Sheet {
        private final int[] signs;
        private int size;

        Sheet() {
            signs = new int[MOST_SIGNS];
        }

        void write(Node root) {
            size = 0;
            writeNode(this, root, 0);
        }

        private static void writeNode(Sheet sheet, Node node, int depth) {
            if (node == null || depth >= DEEPEST) {
                return;
            }
            if (node.isLeaf()) {
                sheet.writeLeaf(node);
                return;
            }
            sheet.append('(');
            for (int i = 0; i < node.size(); i++) {
                writeNode(sheet, node.kidAt(i), depth + 1);
            }
            sheet.append(')');
        }

        private void writeLeaf(Node leaf) {
            append('[');
            for (int i = 0; i < leaf.size(); i++) {
                if (i > 0) {
                    append(' ');
                }
                writeNumber(leaf.keyAt(i));
                append(':');
                writeNumber(leaf.valueAt(i));
            }
            append(']');
        }

        /** Three digits at most. */
        private void writeNumber(int number) {
            if (number < 0) {
                append('-');
            }
            int digits = number < 0 ? -number : number;
            if (digits >= 100) {
                append((char) ('0' + digits / 100 % 10));
            }
            if (digits >= 10) {
                append((char) ('0' + digits / 10 % 10));
            }
            append((char) ('0' + digits % 10));
        }

        private void append(char sign) {
            if (size < signs.length) {
                signs[size] = sign;
                size++;
            }
        }

        int size() {
            return size;
        }

        int signAt(int i) {
            return i >= 0 && i < size && i < signs.length ? signs[i] : NONE;
        }

        int hashed() {
            int hash = 0;
            for (int i = 0; i < size; i++) {
                hash = (hash * DIGEST_BASE + signAt(i)) % DIGEST_MODULUS;
            }
            return hash;
        }

        boolean isSameAs(Sheet other) {
            if (size != other.size) {
                return false;
            }
            for (int i = 0; i < size; i++) {
                if (signAt(i) != other.signAt(i)) {
                    return false;
                }
            }
            return true;
        }
    }
}
