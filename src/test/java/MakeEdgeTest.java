/** Boundary cases of MAPS made of MAPS: promises 14 to 20. */
public final class MakeEdgeTest {
    private static final int NONE = Edges.NONE;
    private static final int HIDDEN = Edges.HIDDEN;
    private static final int LEAST = Edges.LEAST;
    private static final int MOST = Edges.MOST;

    private static Edges edges;

    public static void main(String[] args) {
        edges = new Edges("MakeEdgeTest");
        having();
        havingRefused();
        lacking();
        lackingRefused();
        merging();
        mergingShared();
        mergingRefused();
        three();
        threeAtSixty();
        threeRefused();
        conflicts();
        slicing();
        slicingRefused();
        dropping();
        lastNumbers();
        edges.close();
    }

    // ---- promise 14
    private static void having() {
        edges.edge("14 the least and the greatest KEY and VALUE", x -> {
            Due.map(x, "5:5");
            edges.is("0, 999", x.having(0, 0, 999), 1);
            edges.is("999, -999", x.having(1, 999, -999), 2);
            edges.looks(x, 2, "[0:999 5:5 999:-999]");
            edges.looks(x, 0, "[5:5]");
        });
        edges.edge("14 the sixtieth KEY", x -> {
            int full = Due.full(x, 1);
            int less = x.lacking(full, 30);
            edges.is("59 KEYS", x.about(less, 0), 59);
            int more = x.having(less, 999, 9);
            edges.is("60 KEYS", x.about(more, 0), 60);
            edges.is("find", x.find(more, 999), 9);
        });
        edges.edge("14 a KEY that is there, of sixty", x -> {
            int full = Due.full(x, 1);
            int more = x.having(full, 59, 2);
            edges.is("60 KEYS", x.about(more, 0), 60);
            edges.is("find", x.find(more, 59), 2);
            edges.is("the same VALUE", x.shared(x.having(full, 0, 1), full), x.about(full, 2));
        });
        edges.edge("14, 15, 19 comes from one, not from two (NONE)", x -> {
            Edges.three(x);
            int[] made = {x.having(2, 1, 1), x.lacking(2, 9), x.slice(2, 1, 3)};
            for (int map : made) {
                edges.is("the one", x.about(map, 5), 2);
                edges.is("the two", x.about(map, 6), NONE);
                edges.is("not from 0", x.comesFrom(map, 0), 0);
            }
        });
        edges.edge("14 the sixteenth MAP", x -> {
            x.text(0);
            for (int i = 1; i < 16; i++) {
                edges.is("having", x.having(i - 1, i, i), i);
            }
            edges.is("held", x.count(1), 16);
        });
    }

    private static void havingRefused() {
        edges.edge("14 NONE: no such MAP (STATUS 0)", x -> {
            Edges.three(x);
            for (int map : Edges.noMaps()) {
                edges.refused("having(" + map + ", 1, 1)", x, 0, y -> y.having(map, 1, 1));
            }
        });
        edges.edge("14 NONE: out of bounds (1), the KEY", x -> {
            Edges.three(x);
            for (int key : Edges.NO_KEYS) {
                edges.refused("having(0, " + key + ", 1)", x, 1, y -> y.having(0, key, 1));
            }
        });
        edges.edge("14 NONE: out of bounds (1), the VALUE", x -> {
            Edges.three(x);
            for (int value : Edges.NO_VALUES) {
                edges.refused("having(0, 1, " + value + ")", x, 1, y -> y.having(0, 1, value));
            }
        });
        edges.edge("14 NONE: more than 60 (3)", x -> {
            int full = Due.full(x, 1);
            for (int key : new int[] {60, 999}) {
                edges.refused("having(full, " + key + ", 1)", x, 3, y -> y.having(full, key, 1));
            }
        });
        edges.edge("14 NONE: no room (4), sixteen are held", x -> {
            Edges.three(x);
            Edges.crowd(x);
            edges.refused("a new KEY", x, 4, y -> y.having(0, 10, 1));
            edges.refused("nothing to do", x, 4, y -> y.having(0, 1, 1));
            x.drop(2);
            edges.is("room again", x.having(0, 10, 1), x.count(2) - 1);
        });
        edges.edge("14 of several the first", x -> {
            int full = Due.full(x, 1);
            for (int i = x.count(1); i < 16; i++) {
                x.lacking(full, 60);
            }
            edges.refused("no such MAP, out of bounds", x, 0, y -> y.having(99, 1000, 1000));
            edges.refused("out of bounds, more than 60", x, 1, y -> y.having(full, 60, 1000));
            edges.refused("out of bounds, no room", x, 1, y -> y.having(full, 1000, 1));
            edges.refused("more than 60, no room", x, 3, y -> y.having(full, 60, 1));
        });
    }

    // ---- promise 15
    private static void lacking() {
        edges.edge("15 the least and the greatest KEY", x -> {
            Due.map(x, "0:1,5:5,999:2");
            edges.looks(x, x.lacking(0, 0), "[5:5 999:2]");
            edges.looks(x, x.lacking(0, 999), "[0:1 5:5]");
        });
        edges.edge("15 the only KEY, and none at all", x -> {
            Due.map(x, "5:5");
            edges.looks(x, x.lacking(0, 5), "[]");
            edges.looks(x, x.lacking(1, 5), "[]");
            edges.is("comes from", x.about(2, 5), 1);
            edges.is("nothing was done", x.shared(1, 2), 1);
        });
        edges.edge("15 a KEY that is not there gives a MAP, too", x -> {
            Edges.three(x);
            int made = x.count(3);
            edges.is("its number", x.lacking(0, 999), 3);
            edges.is("the same NODES", x.shared(0, 3), 7);
            edges.is("MADE", x.count(3), made);
        });
    }

    private static void lackingRefused() {
        edges.edge("15 NONE: no such MAP (STATUS 0)", x -> {
            Edges.three(x);
            for (int map : Edges.noMaps()) {
                edges.refused("lacking(" + map + ", 1)", x, 0, y -> y.lacking(map, 1));
            }
        });
        edges.edge("15 NONE: out of bounds (1)", x -> {
            Edges.three(x);
            for (int key : Edges.NO_KEYS) {
                edges.refused("lacking(0, " + key + ")", x, 1, y -> y.lacking(0, key));
            }
        });
        edges.edge("15 NONE: no room (4), sixteen are held", x -> {
            Edges.three(x);
            Edges.crowd(x);
            edges.refused("one to take out", x, 4, y -> y.lacking(0, 1));
            edges.refused("nothing to do", x, 4, y -> y.lacking(0, 999));
        });
        edges.edge("15 of several the first", x -> {
            Edges.three(x);
            Edges.crowd(x);
            edges.refused("no such MAP, out of bounds", x, 0, y -> y.lacking(1, 1000));
            edges.refused("out of bounds, no room", x, 1, y -> y.lacking(0, -1));
        });
    }

    // ---- promise 16
    private static void merging() {
        edges.edge("16 rules 0 to 3 where both have a KEY", x -> {
            Due.map(x, "1:5,2:-7,3:0");
            Due.map(x, "1:6,2:-8,3:0");
            String[] all = {"[1:5 2:-7 3:0]", "[1:6 2:-8 3:0]", "[1:6 2:-7 3:0]", "[1:11 2:-15 3:0]"};
            for (int rule = 0; rule < 4; rule++) {
                edges.looks(x, x.merge(0, 1, rule), all[rule]);
            }
        });
        edges.edge("16 where the other alone has a KEY its VALUE comes by each rule", x -> {
            Due.map(x, "5:5");
            Due.map(x, "0:-999,999:999");
            for (int rule = 0; rule < 4; rule++) {
                edges.looks(x, x.merge(0, 1, rule), "[0:-999 5:5 999:999]");
            }
        });
        edges.edge("16 both added, held within -999 .. 999", x -> {
            Due.map(x, "1:500,2:500,3:-500,4:-500,5:999,6:-999");
            Due.map(x, "1:499,2:500,3:-499,4:-500,5:999,6:-999");
            edges.is("merge", x.merge(0, 1, 3), 2);
            int[] values = {999, 999, -999, -999, 999, -999};
            for (int key = 1; key <= 6; key++) {
                edges.is("find " + key, x.find(2, key), values[key - 1]);
            }
        });
        edges.edge("16 with an empty one, of an empty one, of two empty ones", x -> {
            Due.map(x, "1:1,2:2");
            x.text(0);
            x.text(0);
            int made = x.count(3);
            edges.looks(x, x.merge(0, 1, 3), "[1:1 2:2]");
            edges.looks(x, x.merge(1, 2, 3), "[]");
            edges.is("nothing to do", x.count(3), made);
            edges.looks(x, x.merge(1, 0, 3), "[1:1 2:2]");
            edges.is("one LEAF", x.count(3), made + 1);
            edges.is("not the other's", x.shared(5, 0), 0);
        });
        edges.edge("16 just 60 KEYS", x -> {
            int full = Due.full(x, 1);
            int half = x.slice(full, 0, 29);
            Due.map(x, Due.rising(30, 59, 0));
            int merged = x.merge(half, x.count(2) - 1, 0);
            edges.is("KEYS", x.about(merged, 0), 60);
            edges.is("within a full one", x.about(x.merge(half, full, 1), 0), 60);
            edges.is("into a full one", x.about(x.merge(full, half, 1), 0), 60);
        });
    }

    private static void mergingShared() {
        edges.edge("16 with itself: no LEAF of it that the first has not", x -> {
            Edges.three(x);
            int made = x.count(3);
            edges.is("merge", x.merge(0, 0, 3), 3);
            edges.is("nothing is added", x.alike(0, 3, 0), 1);
            edges.is("MADE", x.count(3), made);
            edges.is("the one", x.about(3, 5), 0);
            edges.is("the other", x.about(3, 6), 0);
        });
        edges.edge("16 all ENTRIES that lie in LEAVES the first has not, and no others", x -> {
            x.wide(3);
            Due.map(x, "1:1,2:2,3:3,4:4");
            x.having(0, 4, 5);
            edges.looks(x, x.merge(0, 1, 3), "([1:1 2:2][3:6 4:9])");
            edges.looks(x, x.merge(1, 0, 3), "([1:1 2:2][3:6 4:9])");
        });
        edges.edge("16 LEAVES alike are not shared", x -> {
            x.wide(3);
            Due.map(x, "1:1,2:2,3:3,4:4");
            Due.map(x, "1:1,2:2,3:3,4:4");
            edges.looks(x, x.merge(0, 1, 3), "([1:2 2:4][3:6 4:8])");
        });
        edges.edge("16 a LEAF that lies on another LEVEL is shared, too", x -> {
            x.wide(3);
            Due.map(x, Edges.EIGHT);
            edges.looks(x, x.slice(0, 1, 4), "([1:1 2:2][3:3 4:4])");
            edges.is("the first LEAF alone", x.shared(0, 1), 1);
            edges.looks(x, x.merge(1, 0, 3), "(([1:1 2:2][3:6 4:8])([5:5 6:6][7:7 8:8]))");
        });
    }

    private static void mergingRefused() {
        edges.edge("16 NONE: no such MAPS (STATUS 0)", x -> {
            Edges.three(x);
            for (int map : Edges.noMaps()) {
                edges.refused("merge(" + map + ", 0, 0)", x, 0, y -> y.merge(map, 0, 0));
                edges.refused("merge(0, " + map + ", 0)", x, 0, y -> y.merge(0, map, 0));
                edges.refused("merge(" + map + ", " + map + ", 0)", x, 0, y -> y.merge(map, map, 0));
            }
        });
        edges.edge("16 NONE: no such rule (1)", x -> {
            Edges.three(x);
            for (int rule : new int[] {LEAST, -1, 4, MOST}) {
                edges.refused("merge(0, 2, " + rule + ")", x, 1, y -> y.merge(0, 2, rule));
            }
        });
        edges.edge("16 NONE: more than 60 (3), in whole", x -> {
            int full = Due.full(x, 1);
            int one = Due.map(x, "59:9,60:9");
            for (int rule = 0; rule < 4; rule++) {
                int by = rule;
                edges.refused("full and one", x, 3, y -> y.merge(full, one, by));
                edges.refused("one and full", x, 3, y -> y.merge(one, full, by));
            }
        });
        edges.edge("16 NONE: no room (4), sixteen are held", x -> {
            Edges.three(x);
            Edges.crowd(x);
            edges.refused("merge(0, 2, 0)", x, 4, y -> y.merge(0, 2, 0));
            edges.refused("nothing to do", x, 4, y -> y.merge(0, 0, 0));
        });
        edges.edge("16 of several the first", x -> {
            int full = Due.full(x, 1);
            int one = Due.map(x, "60:9");
            while (x.count(1) < 16) {
                x.lacking(full, 60);
            }
            edges.refused("no such MAP, no such rule", x, 0, y -> y.merge(full, 99, 4));
            edges.refused("no such rule, more than 60", x, 1, y -> y.merge(full, one, 4));
            edges.refused("more than 60, no room", x, 3, y -> y.merge(full, one, 3));
        });
    }

    // ---- promise 17
    private static void three() {
        edges.edge("17 no KEY at which the other differs: all stays", x -> {
            Edges.three(x);
            int made = x.count(3);
            edges.is("the other is the BASE", x.three(2, 0, 2, 1), 3);
            edges.is("the other is the one", x.three(2, 0, 0, 1), 4);
            edges.is("all three are one", x.three(0, 0, 0, 2), 5);
            for (int map = 3; map < 6; map++) {
                edges.is("all shared", x.shared(0, map), 7);
            }
            edges.is("MADE", x.count(3), made);
        });
        edges.edge("17 the one is the BASE: as the other is", x -> {
            Edges.three(x);
            edges.is("three", x.three(0, 0, 2, 0), 3);
            edges.is("alike", x.alike(3, 2, 0), 1);
        });
        edges.edge("17 CONFLICTS by rules 0, 1, 2: another VALUE, not there", x -> {
            x.wide(6);
            int base = Due.map(x, "1:1,2:2,3:3");
            int one = Due.map(x, "1:10,3:30,4:40");
            int other = Due.map(x, "1:100,2:200,4:400");
            edges.looks(x, x.three(base, one, other, 0), "[1:10 3:30 4:40]");
            edges.looks(x, x.three(base, one, other, 1), "[1:100 2:200 4:400]");
            edges.looks(x, x.three(base, one, other, 2), "[1:1 2:2 3:3]");
        });
        edges.edge("17 of empty ones", x -> {
            Due.map(x, "1:1,2:2");
            x.text(0);
            edges.looks(x, x.three(1, 1, 0, 0), "[1:1 2:2]");
            edges.looks(x, x.three(0, 0, 1, 0), "[]");
            edges.looks(x, x.three(0, 1, 1, 0), "[]");
            edges.looks(x, x.three(1, 1, 1, 0), "[]");
            edges.looks(x, x.three(0, 1, 0, 1), "[]");
        });
        edges.edge("17 at the least and the greatest KEY", x -> {
            Due.map(x, "0:1,999:1");
            Due.map(x, "0:1,999:1");
            Due.map(x, "0:-999,999:999");
            x.text(0);
            edges.looks(x, x.three(0, 1, 2, 0), "[0:-999 999:999]");
            edges.looks(x, x.three(0, 1, 3, 0), "[]");
            edges.looks(x, x.three(3, 3, 2, 0), "[0:-999 999:999]");
        });
        edges.edge("17 it comes from the one and the other, not the BASE", x -> {
            Edges.three(x);
            x.text(0);
            x.three(0, 2, 3, 0);
            edges.is("the one", x.about(4, 5), 2);
            edges.is("the other", x.about(4, 6), 3);
            edges.is("not the BASE", x.comesFrom(4, 0), 0);
        });
    }

    private static void threeAtSixty() {
        edges.edge("17 just 60 KEYS at the end", x -> {
            int full = Due.full(x, 1);
            int empty = x.slice(full, 999, 999);
            int less = x.slice(full, 1, 59);
            edges.is("KEYS", x.about(x.three(empty, less, full, 0), 0), 60);
        });
        edges.edge("17 More than 60 KEYS on the way, 60 at the end: by what comes of it at the end", x -> {
            int full = Due.full(x, 1);
            int far = Due.map(x, Due.rising(800, 839, 0));
            edges.is("forty go, sixty come", x.alike(x.three(far, far, full, 0), full, 0), 1);
            edges.is("sixty go, forty come", x.alike(x.three(full, full, far, 0), far, 0), 1);
        });
        edges.edge("17 as many come as go: 60 at the end, one more: 61", x -> {
            int full = Due.full(x, 1);
            int one = x.having(x.lacking(full, 0), 60, 1);
            int two = x.having(x.lacking(full, 0), 61, 1);
            int both = x.having(x.lacking(one, 1), 61, 1);
            int base = x.lacking(x.lacking(full, 58), 59);
            edges.is("one goes, one comes", x.about(x.three(full, full, two, 0), 0), 60);
            edges.is("two go, two come", x.alike(x.three(full, full, both, 0), both, 0), 1);
            int rest = x.lacking(base, 0);
            int more = x.having(x.having(rest, 61, 1), 62, 1);
            edges.is("KEYS of the other", x.about(more, 0), 59);
            edges.refused("one goes, two come", x, 3, y -> y.three(base, full, more, 0));
        });
        edges.edge("17 rule 2 can take KEYS out: 60 with it, 61 without it", x -> {
            int full = Due.full(x, 1);
            int base = x.lacking(full, 0);
            int other = x.having(base, 0, 9);
            int more = x.having(x.lacking(other, 0), 60, 1);
            edges.is("KEYS of the one", x.about(full, 0), 60);
            edges.is("KEYS of the other", x.about(more, 0), 60);
            edges.refused("61 at the end", x, 3, y -> y.three(base, full, more, 0));
            int both = x.having(x.lacking(more, 1), 0, 9);
            edges.refused("the CONFLICT stays", x, Edges.NO_STATUS, y -> y.find(both, 1) == HIDDEN ? NONE : 0);
            edges.is("60 at the end", x.about(x.three(base, full, both, 0), 0), 60);
            edges.is("59 at the end", x.about(x.three(base, full, both, 2), 0), 59);
        });
    }

    private static void threeRefused() {
        edges.edge("17 NONE: no such MAPS (STATUS 0)", x -> {
            Edges.three(x);
            for (int map : Edges.noMaps()) {
                edges.refused("BASE " + map, x, 0, y -> y.three(map, 0, 2, 0));
                edges.refused("the one " + map, x, 0, y -> y.three(0, map, 2, 0));
                edges.refused("the other " + map, x, 0, y -> y.three(0, 2, map, 0));
            }
            edges.refused("all three", x, 0, y -> y.three(-1, -1, -1, 0));
        });
        edges.edge("17 NONE: no such rule (1)", x -> {
            Edges.three(x);
            for (int rule : new int[] {LEAST, -1, 3, 4, MOST}) {
                edges.refused("three(0, 0, 2, " + rule + ")", x, 1, y -> y.three(0, 0, 2, rule));
            }
        });
        edges.edge("17 NONE: more than 60 (3)", x -> {
            int full = Due.full(x, 1);
            int empty = x.slice(full, 999, 999);
            int one = Due.map(x, "60:9");
            for (int rule = 0; rule < 3; rule++) {
                int by = rule;
                edges.refused("full and one", x, 3, y -> y.three(empty, full, one, by));
                edges.refused("one and full", x, 3, y -> y.three(empty, one, full, by));
            }
        });
        edges.edge("17 NONE: no room (4), sixteen are held", x -> {
            Edges.three(x);
            Edges.crowd(x);
            edges.refused("three(0, 0, 2, 0)", x, 4, y -> y.three(0, 0, 2, 0));
            edges.refused("nothing to do", x, 4, y -> y.three(0, 0, 0, 0));
        });
        edges.edge("17 of several the first", x -> {
            int full = Due.full(x, 1);
            int empty = x.slice(full, 999, 999);
            int one = Due.map(x, "60:9");
            while (x.count(1) < 16) {
                x.lacking(full, 60);
            }
            edges.refused("no such MAP, no such rule", x, 0, y -> y.three(99, full, one, 3));
            edges.refused("no such rule, more than 60", x, 1, y -> y.three(empty, full, one, 3));
            edges.refused("more than 60, no room", x, 3, y -> y.three(empty, full, one, 1));
        });
    }

    // ---- promise 18
    private static void conflicts() {
        edges.edge("18 How many: none, at each of sixty KEYS", x -> {
            int full = Due.full(x, 1);
            int empty = x.slice(full, 999, 999);
            int other = Due.full(x, 2);
            edges.quiet("none, all three are one", x, 0, y -> y.conflicts(full, full, full));
            edges.quiet("none, the one is the BASE", x, 0, y -> y.conflicts(full, full, other));
            edges.quiet("none, the other is the BASE", x, 0, y -> y.conflicts(full, other, full));
            edges.quiet("none, both became the same", x, 0, y -> y.conflicts(empty, other, other));
            edges.quiet("sixty, put", x, 60, y -> y.conflicts(empty, full, other));
            edges.quiet("sixty, taken out and changed", x, 60, y -> y.conflicts(full, empty, other));
            edges.quiet("sixty, changed and taken out", x, 60, y -> y.conflicts(full, other, empty));
        });
        edges.edge("18 more than 60 KEYS are none's bother, nor no room", x -> {
            int full = Due.full(x, 1);
            int empty = x.slice(full, 999, 999);
            Due.map(x, "59:9,60:9");
            int other = x.count(2) - 1;
            while (x.count(1) < 16) {
                x.lacking(full, 60);
            }
            edges.quiet("one", x, 1, y -> y.conflicts(empty, full, other));
        });
        edges.edge("18 at the least and the greatest KEY", x -> {
            Due.map(x, "0:1,999:1");
            Due.map(x, "0:2,999:2");
            Due.map(x, "0:3,999:3");
            edges.is("two", x.conflicts(0, 1, 2), 2);
        });
        edges.edge("18 NONE: no such MAPS", x -> {
            Edges.three(x);
            for (int map : Edges.noMaps()) {
                edges.quiet("BASE " + map, x, NONE, y -> y.conflicts(map, 0, 2));
                edges.quiet("the one " + map, x, NONE, y -> y.conflicts(0, map, 2));
                edges.quiet("the other " + map, x, NONE, y -> y.conflicts(0, 2, map));
            }
        });
    }

    // ---- promise 19
    private static void slicing() {
        edges.edge("19 from one KEY to another: both stay", x -> {
            x.wide(3);
            Due.map(x, Edges.EIGHT);
            edges.keys(x, x.slice(0, 3, 6), "([3 4][5 6])");
            edges.keys(x, x.slice(0, 2, 8), "([2 3 4][5 6][7 8])");
            edges.keys(x, x.slice(0, 1, 7), "([1 2][3 4][5 6 7])");
            edges.keys(x, x.slice(0, 4, 4), "[4]");
        });
        edges.edge("19 from the least to the greatest: nothing to do", x -> {
            Edges.three(x);
            int made = x.count(3);
            edges.is("0 to 999", x.slice(0, 0, 999), 3);
            edges.is("1 to 8", x.slice(0, 1, 8), 4);
            edges.is("shared", x.shared(0, 3) + x.shared(0, 4), 14);
            edges.is("MADE", x.count(3), made);
        });
        edges.edge("19 none are left", x -> {
            Edges.three(x);
            edges.looks(x, x.slice(0, 9, 999), "[]");
            edges.looks(x, x.slice(0, 0, 0), "[]");
            edges.looks(x, x.slice(3, 0, 999), "[]");
        });
        edges.edge("19 the edge KEYS 0 and 999 alone", x -> {
            Due.map(x, "0:1,1:1,998:1,999:1");
            edges.keys(x, x.slice(0, 0, 0), "[0]");
            edges.keys(x, x.slice(0, 999, 999), "[999]");
            edges.keys(x, x.slice(0, 1, 998), "[1 998]");
        });
    }

    private static void slicingRefused() {
        edges.edge("19 NONE: no such MAP (STATUS 0)", x -> {
            Edges.three(x);
            for (int map : Edges.noMaps()) {
                edges.refused("slice(" + map + ", 1, 2)", x, 0, y -> y.slice(map, 1, 2));
            }
        });
        edges.edge("19 NONE: out of bounds (1)", x -> {
            Edges.three(x);
            edges.refused("slice(0, -1, 5)", x, 1, y -> y.slice(0, -1, 5));
            edges.refused("slice(0, least, 5)", x, 1, y -> y.slice(0, LEAST, 5));
            edges.refused("slice(0, 5, 1000)", x, 1, y -> y.slice(0, 5, 1000));
            edges.refused("slice(0, 5, most)", x, 1, y -> y.slice(0, 5, MOST));
            edges.refused("slice(0, -1, -1)", x, 1, y -> y.slice(0, -1, -1));
            edges.refused("slice(0, 1000, 1000)", x, 1, y -> y.slice(0, 1000, 1000));
        });
        edges.edge("19 NONE: from above to (1)", x -> {
            Edges.three(x);
            edges.refused("slice(0, 5, 4)", x, 1, y -> y.slice(0, 5, 4));
            edges.refused("slice(0, 999, 0)", x, 1, y -> y.slice(0, 999, 0));
        });
        edges.edge("19 NONE: no room (4), sixteen are held", x -> {
            Edges.three(x);
            Edges.crowd(x);
            edges.refused("slice(0, 1, 2)", x, 4, y -> y.slice(0, 1, 2));
            edges.refused("nothing to do", x, 4, y -> y.slice(0, 0, 999));
        });
        edges.edge("19 of several the first", x -> {
            Edges.three(x);
            Edges.crowd(x);
            edges.refused("no such MAP, from above to", x, 0, y -> y.slice(1, 5, 4));
            edges.refused("from above to, no room", x, 1, y -> y.slice(0, 5, 4));
            edges.refused("out of bounds, no room", x, 1, y -> y.slice(0, 5, 1000));
        });
    }

    // ---- promise 20
    private static void dropping() {
        edges.edge("20 how many are: from sixteen to none", x -> {
            x.text(0);
            Edges.crowd(x);
            for (int map = 0; map < 16; map++) {
                edges.is("drop(" + map + ")", x.drop(map), 15 - map);
            }
            edges.is("LIVE", x.count(4), 0);
        });
        edges.edge("20 NONE: no such MAP (STATUS 0)", x -> {
            Edges.three(x);
            for (int map : Edges.noMaps()) {
                edges.refused("drop(" + map + ")", x, 0, y -> y.drop(map));
            }
        });
        edges.edge("20 NONE: a second time", x -> {
            x.text(0);
            edges.is("once", x.drop(0), 0);
            edges.refused("twice", x, 0, y -> y.drop(0));
        });
        edges.edge("20 no number comes again", x -> {
            x.text(0);
            x.drop(0);
            edges.is("the next", x.text(0), 1);
            edges.refused("0 is none", x, 0, y -> y.drop(0));
        });
        edges.edge("20 a BUILDER from it is not STALE", x -> {
            Due.map(x, "1:1");
            x.build(0, 0);
            x.drop(0);
            edges.is("peek", x.peek(0, 1), 1);
            edges.is("the MAP it comes from", x.builder(0, 3), 0);
            edges.is("snap", x.snap(0), 1);
            edges.is("comes from", x.comesFrom(1, 0), 1);
        });
    }

    private static void lastNumbers() {
        edges.edge("14 to 19 the number 998 is the last one, then there is no room (4)", x -> {
            Due.map(x, "1:1,2:2");
            Edges.spend(x, 5);
            edges.is("having", x.having(0, 3, 3), 994);
            edges.is("lacking", x.lacking(994, 1), 995);
            edges.is("merge", x.merge(994, 995, 0), 996);
            edges.is("three", x.three(0, 995, 996, 0), 997);
            edges.is("slice", x.slice(994, 2, 3), 998);
            edges.looks(x, 998, "[2:2 3:3]");
            edges.refused("having", x, 4, y -> y.having(0, 3, 3));
            edges.refused("lacking", x, 4, y -> y.lacking(0, 1));
            edges.refused("merge", x, 4, y -> y.merge(0, 0, 0));
            edges.refused("three", x, 4, y -> y.three(0, 0, 0, 0));
            edges.refused("slice", x, 4, y -> y.slice(0, 1, 1));
            edges.is("drop", x.drop(998), 5);
            edges.refused("no number comes again", x, 4, y -> y.slice(0, 1, 1));
        });
    }
}
