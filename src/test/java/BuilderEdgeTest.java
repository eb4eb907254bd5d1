import java.util.function.ToIntBiFunction;

/** Boundary cases of BUILDERS: promises 21 to 31 and 33. */
public final class BuilderEdgeTest {
    private static final int NONE = Edges.NONE;
    private static final int HIDDEN = Edges.HIDDEN;
    private static final int LEAST = Edges.LEAST;
    private static final int MOST = Edges.MOST;

    private static Edges edges;

    public static void main(String[] args) {
        edges = new Edges("BuilderEdgeTest");
        building();
        refusedByAll();
        bounds();
        severalFirst();
        laying();
        taking();
        adding();
        cutting();
        raising();
        snapping();
        noRoom();
        freezing();
        peeking();
        asking();
        drawing();
        drawingRefused();
        running();
        runningStops();
        runningRefused();
        edges.close();
    }

    /** Builder 0 holds sixty keys, 0 .. 59, each with the value 1; map 1 alone is held. */
    private static void full(WideMap x) {
        x.build(0, Due.full(x, 1));
    }

    // ---- promise 21
    private static void building() {
        edges.edge("21 A BUILDER (0 .. 3)", x -> {
            Edges.three(x);
            for (int builder = 0; builder < 4; builder++) {
                edges.is("build(" + builder + ", 0)", x.build(builder, 0), 7);
                edges.is("KEYS", x.builder(builder, 0), 8);
            }
        });
        edges.edge("21 how many NODES its ROOT has: one, fifty-six", x -> {
            x.wide(3);
            int full = Due.full(x, 1);
            x.text(0);
            edges.is("empty", x.build(0, x.count(2) - 1), 1);
            edges.is("sixty", x.build(0, full), 56);
        });
        edges.edge("21 STALE or not: opened again it is that of the new MAP", x -> {
            Edges.three(x);
            x.build(0, 0);
            x.lay(0, 1, 9);
            edges.is("open", x.build(0, 2), 1);
            edges.is("KEYS", x.builder(0, 0), 3);
            edges.is("no NODE with its TOKEN", x.builder(0, 2), 0);
            edges.is("the MAP it comes from", x.builder(0, 3), 2);
            x.freeze(0);
            edges.is("STALE", x.build(0, 0), 7);
            edges.is("the MAP as it was", x.peek(0, 1), 1);
        });
        edges.edge("21 from the MAP of the last number", x -> {
            x.text(0);
            Edges.spend(x, 1);
            Due.map(x, "1:7");
            edges.is("build", x.build(0, 998), 1);
            edges.is("the MAP it comes from", x.builder(0, 3), 998);
        });
        edges.edge("21 NONE: no such MAP (STATUS 0)", x -> {
            Edges.three(x);
            x.build(0, 0);
            x.lay(0, 1, 9);
            for (int map : Edges.noMaps()) {
                edges.refused("build(0, " + map + ")", x, 0, y -> y.build(0, map));
                edges.refused("build(1, " + map + ")", x, 0, y -> y.build(1, map));
            }
        });
        edges.edge("21 NONE: no such BUILDER (STATUS 0)", x -> {
            Edges.three(x);
            for (int builder : Edges.NO_BUILDERS) {
                edges.refused("build(" + builder + ", 0)", x, 0, y -> y.build(builder, 0));
            }
            edges.refused("neither", x, 0, y -> y.build(4, 1));
        });
    }

    private static final String[] CALLS = {"22 lay", "23 take", "24 add", "25 cut", "26 inc", "27 snap", "28 freeze", "31 draws"};

    private static int call(WideMap x, int which, int builder) {
        switch (which) {
            case 0: return x.lay(builder, 5, 5);
            case 1: return x.take(builder, 5);
            case 2: return x.add(builder, 5, 5);
            case 3: return x.cut(builder, 5, 5);
            case 4: return x.inc(builder, 5, 5, 5);
            case 5: return x.snap(builder);
            case 6: return x.freeze(builder);
            default: return x.draws(builder, 1, 5);
        }
    }

    private static void refusedByAll() {
        for (int i = 0; i < CALLS.length; i++) {
            int which = i;
            edges.edge(CALLS[which] + ", NONE: no such BUILDER (STATUS 0)", x -> {
                Edges.three(x);
                for (int builder : Edges.NO_BUILDERS) {
                    edges.refused("of " + builder, x, 0, y -> call(y, which, builder));
                }
            });
            edges.edge(CALLS[which] + ", NONE: STALE (2), one not opened yet", x -> {
                Edges.three(x);
                for (int builder = 0; builder < 4; builder++) {
                    int b = builder;
                    edges.refused("of " + builder, x, 2, y -> call(y, which, b));
                }
            });
            edges.edge(CALLS[which] + ", NONE: STALE (2), one that is FROZEN", x -> {
                Edges.three(x);
                x.build(0, 0);
                x.build(3, 0);
                x.freeze(3);
                edges.refused("of 3", x, 2, y -> call(y, which, 3));
                edges.is("another one is not STALE", call(x, which, 0) >= 0, true);
            });
            edges.edge(CALLS[which] + ", NONE: STALE (2), after OPEN, after BACK", x -> {
                Edges.three(x);
                x.image();
                x.build(1, 0);
                x.back();
                edges.refused("after BACK", x, 2, y -> call(y, which, 1));
                x.build(1, 0);
                x.wide(3);
                edges.refused("after OPEN", x, 2, y -> call(y, which, 1));
            });
        }
    }

    /** The call is out of bounds with each of these, on a builder that is open. */
    private static void out(String told, int[] odd, ToIntBiFunction<WideMap, Integer> asked) {
        edges.edge(told + ", NONE: out of bounds (1)", x -> {
            Edges.three(x);
            x.build(0, 0);
            for (int bad : odd) {
                edges.refused("with " + bad, x, 1, y -> asked.applyAsInt(y, bad));
            }
        });
    }

    private static void bounds() {
        out("22 lay, KEY", Edges.NO_KEYS, (x, bad) -> x.lay(0, bad, 1));
        out("22 lay, VALUE", Edges.NO_VALUES, (x, bad) -> x.lay(0, 1, bad));
        out("23 take, KEY", Edges.NO_KEYS, (x, bad) -> x.take(0, bad));
        out("24 add, KEY", Edges.NO_KEYS, (x, bad) -> x.add(0, bad, 1));
        out("24 add, VALUE", Edges.NO_VALUES, (x, bad) -> x.add(0, 1, bad));
        out("25 cut, from", new int[] {LEAST, -1}, (x, bad) -> x.cut(0, bad, 5));
        out("25 cut, to", new int[] {1000, MOST}, (x, bad) -> x.cut(0, 5, bad));
        out("25 cut, from and to", Edges.NO_KEYS, (x, bad) -> x.cut(0, bad, bad));
        out("25 cut, from above to", new int[] {4, 0}, (x, bad) -> x.cut(0, 5, bad));
        out("26 inc, from", new int[] {LEAST, -1}, (x, bad) -> x.inc(0, bad, 5, 1));
        out("26 inc, to", new int[] {1000, MOST}, (x, bad) -> x.inc(0, 5, bad, 1));
        out("26 inc, from and to", Edges.NO_KEYS, (x, bad) -> x.inc(0, bad, bad, 1));
        out("26 inc, from above to", new int[] {4, 0}, (x, bad) -> x.inc(0, 5, bad, 1));
        out("26 inc, VALUE", Edges.NO_VALUES, (x, bad) -> x.inc(0, 1, 2, bad));
        out("26 inc, VALUE, though there is no KEY", Edges.NO_VALUES, (x, bad) -> x.inc(0, 900, 999, bad));
        out("31 draws, n", new int[] {LEAST, -1, 0, 31, 32, MOST}, (x, bad) -> x.draws(0, bad, 5));
    }

    private static void severalFirst() {
        edges.edge("22 to 31 of several the first: no such BUILDER, out of bounds", x -> {
            Edges.three(x);
            edges.refused("lay", x, 0, y -> y.lay(4, 1000, 1));
            edges.refused("take", x, 0, y -> y.take(-1, 1000));
            edges.refused("add", x, 0, y -> y.add(4, 1, 1000));
            edges.refused("cut", x, 0, y -> y.cut(-1, 5, 4));
            edges.refused("inc", x, 0, y -> y.inc(4, 5, 6, 1000));
            edges.refused("draws", x, 0, y -> y.draws(4, 31, 1));
        });
        edges.edge("22 to 31 of several the first: out of bounds, STALE", x -> {
            Edges.three(x);
            edges.refused("lay", x, 1, y -> y.lay(0, 1000, 1));
            edges.refused("take", x, 1, y -> y.take(0, 1000));
            edges.refused("add", x, 1, y -> y.add(0, 1, 1000));
            edges.refused("cut", x, 1, y -> y.cut(0, 5, 4));
            edges.refused("inc", x, 1, y -> y.inc(0, 5, 6, 1000));
            edges.refused("draws", x, 1, y -> y.draws(0, 0, 1));
        });
        edges.edge("22 of several the first: out of bounds, more than 60", x -> {
            full(x);
            edges.refused("lay", x, 1, y -> y.lay(0, 60, 1000));
            edges.refused("add", x, 1, y -> y.add(0, 60, -1000));
        });
        edges.edge("27, 28 of several the first: STALE, no room", x -> {
            Edges.three(x);
            Edges.crowd(x);
            edges.refused("snap", x, 2, y -> y.snap(0));
            edges.refused("freeze", x, 2, y -> y.freeze(0));
            edges.refused("no such BUILDER", x, 0, y -> y.snap(4));
            edges.refused("no such BUILDER", x, 0, y -> y.freeze(4));
        });
    }

    // ---- promise 22
    private static void laying() {
        edges.edge("22 the least and the greatest KEY and VALUE", x -> {
            x.text(0);
            x.build(0, 0);
            edges.is("0, -999", x.lay(0, 0, -999), 1);
            edges.is("999, 999", x.lay(0, 999, 999), 0);
            edges.is("0", x.peek(0, 0), -999);
            edges.is("999", x.peek(0, 999), 999);
        });
        edges.edge("22 the same VALUE: none MADE", x -> {
            Edges.three(x);
            x.build(0, 0);
            edges.quiet("lay(0, 5, 5)", x, 0, y -> y.lay(0, 5, 5));
        });
        edges.edge("22 the sixtieth KEY", x -> {
            full(x);
            x.take(0, 59);
            edges.is("lay", x.lay(0, 999, 1) >= 0, true);
            edges.is("KEYS", x.builder(0, 0), 60);
        });
        edges.edge("22 NONE: more than 60 (3)", x -> {
            full(x);
            for (int key : new int[] {60, 999}) {
                edges.refused("lay(0, " + key + ", 1)", x, 3, y -> y.lay(0, key, 1));
            }
        });
        edges.edge("22 a KEY that is there, of sixty", x -> {
            full(x);
            edges.quiet("the same VALUE", x, 0, y -> y.lay(0, 59, 1));
            edges.is("another", x.lay(0, 59, 2) > 0, true);
            edges.is("peek", x.peek(0, 59), 2);
        });
        edges.edge("22 PUT needs no room for a MAP", x -> {
            Edges.three(x);
            x.build(0, 0);
            Edges.crowd(x);
            edges.is("lay", x.lay(0, 1, 9), 3);
        });
    }

    // ---- promise 23
    private static void taking() {
        edges.edge("23 not there: none MADE", x -> {
            Edges.three(x);
            x.build(0, 0);
            for (int key : new int[] {0, 9, 999}) {
                edges.quiet("take(0, " + key + ")", x, 0, y -> y.take(0, key));
            }
        });
        edges.edge("23 the least and the greatest KEY, to the last one", x -> {
            Due.map(x, "0:1,999:1");
            x.build(0, 0);
            edges.is("999", x.take(0, 999), 1);
            edges.is("0", x.take(0, 0), 0);
            edges.is("KEYS", x.builder(0, 0), 0);
            edges.quiet("0 again", x, 0, y -> y.take(0, 0));
        });
        edges.edge("23 one of sixty", x -> {
            full(x);
            edges.is("take", x.take(0, 0) > 0, true);
            edges.is("KEYS", x.builder(0, 0), 59);
        });
    }

    // ---- promise 24
    private static void adding() {
        edges.edge("24 held within -999 .. 999: at it, beyond it", x -> {
            Due.map(x, "1:500,2:500,3:-500,4:-500,5:999,6:-999");
            x.build(0, 0);
            int[] more = {499, 500, -499, -500, 999, -999};
            int[] values = {999, 999, -999, -999, 999, -999};
            for (int key = 1; key <= 6; key++) {
                edges.is("add " + key, x.add(0, key, more[key - 1]) >= 0, true);
                edges.is("peek " + key, x.peek(0, key), values[key - 1]);
            }
        });
        edges.edge("24 held already: none MADE", x -> {
            Due.map(x, "5:999,6:-999,7:3");
            x.build(0, 0);
            edges.quiet("above", x, 0, y -> y.add(0, 5, 1));
            edges.quiet("below", x, 0, y -> y.add(0, 6, -1));
            edges.quiet("by 0", x, 0, y -> y.add(0, 7, 0));
        });
        edges.edge("24 else PUT with it: the least, the greatest, 0", x -> {
            Due.map(x, "5:5");
            x.build(0, 0);
            x.add(0, 0, -999);
            x.add(0, 999, 999);
            x.add(0, 1, 0);
            edges.looks(x, x.snap(0), "[0:-999 1:0 5:5 999:999]");
        });
        edges.edge("24 the sixtieth KEY", x -> {
            full(x);
            x.take(0, 59);
            edges.is("add", x.add(0, 999, 1) >= 0, true);
            edges.is("KEYS", x.builder(0, 0), 60);
        });
        edges.edge("24 NONE: more than 60 (3), by 0, too", x -> {
            full(x);
            edges.refused("add(0, 60, 1)", x, 3, y -> y.add(0, 60, 1));
            edges.refused("add(0, 999, 0)", x, 3, y -> y.add(0, 999, 0));
            edges.is("one that is there", x.add(0, 59, 1) > 0, true);
        });
    }

    // ---- promise 25
    private static void cutting() {
        edges.edge("25 from the one to the other: both are TAKEN OUT", x -> {
            Edges.three(x);
            x.build(0, 0);
            x.cut(0, 3, 6);
            edges.keys(x, x.snap(0), "([1 2][7 8])");
        });
        edges.edge("25 one KEY alone, the first, the last", x -> {
            Due.map(x, "0:1,1:1,998:1,999:1");
            x.build(0, 0);
            edges.is("0", x.cut(0, 0, 0), 1);
            edges.is("999", x.cut(0, 999, 999), 0);
            edges.keys(x, x.snap(0), "[1 998]");
        });
        edges.edge("25 none there: none MADE", x -> {
            Edges.three(x);
            x.build(0, 0);
            edges.quiet("0 to 0", x, 0, y -> y.cut(0, 0, 0));
            edges.quiet("9 to 999", x, 0, y -> y.cut(0, 9, 999));
        });
        edges.edge("25 all of sixty, and of none", x -> {
            full(x);
            edges.is("all", x.cut(0, 0, 999) > 0, true);
            edges.is("KEYS", x.builder(0, 0), 0);
            edges.quiet("none", x, 0, y -> y.cut(0, 0, 999));
        });
    }

    // ---- promise 26
    private static void raising() {
        edges.edge("26 from the one to the other: both, no others", x -> {
            Due.map(x, "1:1,2:2,3:3,4:4");
            x.build(0, 0);
            edges.is("inc", x.inc(0, 2, 3, 10), 1);
            edges.looks(x, x.snap(0), "[1:1 2:12 3:13 4:4]");
        });
        edges.edge("26 one KEY alone, the least and the greatest, by the least and the greatest", x -> {
            Due.map(x, "0:0,999:0");
            x.build(0, 0);
            edges.is("0", x.inc(0, 0, 0, -999), 1);
            edges.is("999", x.inc(0, 999, 999, 999), 0);
            edges.looks(x, x.snap(0), "[0:-999 999:999]");
        });
        edges.edge("26 held within -999 .. 999: at it, beyond it", x -> {
            Due.map(x, "1:499,2:500,3:-499,4:-500");
            x.build(0, 0);
            x.inc(0, 1, 2, 500);
            x.inc(0, 3, 4, -500);
            edges.looks(x, x.snap(0), "[1:999 2:999 3:-999 4:-999]");
            edges.quiet("held already", x, 0, y -> y.inc(0, 1, 2, 999));
        });
        edges.edge("26 none there, or by 0: none MADE, none PUT", x -> {
            Edges.three(x);
            x.build(0, 0);
            edges.quiet("none there", x, 0, y -> y.inc(0, 9, 999, 5));
            edges.quiet("by 0", x, 0, y -> y.inc(0, 0, 999, 0));
        });
        edges.edge("26 all of sixty", x -> {
            full(x);
            edges.is("inc", x.inc(0, 0, 999, 1) > 0, true);
            edges.is("the first", x.peek(0, 0), 2);
            edges.is("the last", x.peek(0, 59), 2);
            edges.is("KEYS", x.builder(0, 0), 60);
        });
    }

    // ---- promise 27
    private static void snapping() {
        edges.edge("27 nothing was done: a MAP of the same ROOT", x -> {
            Edges.three(x);
            x.build(0, 0);
            edges.is("snap", x.snap(0), 3);
            edges.is("shared", x.shared(0, 3), 7);
            edges.is("comes from", x.about(3, 5), 0);
            edges.is("snap again", x.snap(0), 4);
            edges.is("comes from", x.about(4, 5), 3);
        });
        edges.edge("27 the BUILDER has a new TOKEN: the MAP never changes", x -> {
            x.text(0);
            x.build(0, 0);
            x.lay(0, 1, 1);
            edges.is("with its TOKEN", x.builder(0, 2), 1);
            x.snap(0);
            edges.is("with its TOKEN", x.builder(0, 2), 0);
            edges.is("copied first", x.lay(0, 1, 2), 1);
            edges.is("changed itself then", x.lay(0, 1, 3), 0);
            edges.looks(x, 1, "[1:1]");
        });
        edges.edge("27 of none, of sixty KEYS", x -> {
            full(x);
            edges.is("sixty", x.about(x.snap(0), 0), 60);
            x.cut(0, 0, 999);
            edges.is("none", x.about(x.snap(0), 0), 0);
        });
        edges.edge("27 the sixteenth MAP, the number 998", x -> {
            x.text(0);
            x.build(0, 0);
            for (int i = 1; i < 16; i++) {
                edges.is("snap", x.snap(0), i);
            }
            Edges.spend(x, 1);
            x.build(0, 0);
            edges.is("the last", x.snap(0), 998);
        });
    }

    private static void noRoom() {
        edges.edge("27 NONE: no room (4), sixteen are held", x -> {
            Edges.three(x);
            x.build(0, 0);
            x.lay(0, 1, 9);
            Edges.crowd(x);
            edges.refused("snap", x, 4, y -> y.snap(0));
            edges.is("its TOKEN still", x.builder(0, 2), 3);
            edges.is("changed itself", x.lay(0, 1, 8), 0);
        });
        edges.edge("27 NONE: no room (4), no number is left", x -> {
            x.text(0);
            Edges.spend(x, 0);
            x.build(0, 0);
            edges.refused("snap", x, 4, y -> y.snap(0));
        });
        edges.edge("28 NONE: no room (4), sixteen are held", x -> {
            Edges.three(x);
            x.build(0, 0);
            x.lay(0, 1, 9);
            Edges.crowd(x);
            edges.refused("freeze", x, 4, y -> y.freeze(0));
            edges.is("not STALE", x.count(7), 1);
            edges.is("its TOKEN still", x.builder(0, 2), 3);
            x.drop(2);
            edges.is("room again", x.freeze(0), 17);
            edges.is("comes from", x.about(17, 5), 0);
        });
        edges.edge("28 NONE: no room (4), no number is left", x -> {
            x.text(0);
            Edges.spend(x, 0);
            x.build(0, 0);
            edges.refused("freeze", x, 4, y -> y.freeze(0));
        });
    }

    // ---- promise 28
    private static void freezing() {
        edges.edge("28 FROZEN: likewise, and the BUILDER is STALE", x -> {
            Edges.three(x);
            x.build(2, 0);
            edges.is("freeze", x.freeze(2), 3);
            edges.is("shared", x.shared(0, 3), 7);
            edges.is("STALE", x.count(7), 0);
            edges.is("comes from", x.about(3, 5), 0);
            edges.is("comes from one", x.about(3, 6), NONE);
        });
        edges.edge("28 after a SNAP it comes from that MAP", x -> {
            Edges.three(x);
            x.build(0, 0);
            x.snap(0);
            edges.is("freeze", x.freeze(0), 4);
            edges.is("comes from", x.about(4, 5), 3);
        });
        edges.edge("28 the sixteenth MAP, the number 998", x -> {
            x.text(0);
            for (int i = 1; i < 16; i++) {
                x.build(0, 0);
                edges.is("freeze", x.freeze(0), i);
            }
            Edges.spend(x, 1);
            x.build(0, 0);
            edges.is("the last", x.freeze(0), 998);
        });
        edges.edge("28 other BUILDERS from the same MAP go on", x -> {
            Edges.three(x);
            x.build(0, 0);
            x.build(1, 0);
            x.freeze(0);
            edges.is("not STALE", x.count(7), 2);
            edges.is("lay", x.lay(1, 1, 9), 3);
        });
    }

    // ---- promise 29
    private static void peeking() {
        edges.edge("29 The VALUE of a KEY, the least and the greatest", x -> {
            Due.map(x, "0:-999,999:999");
            x.build(3, 0);
            edges.is("0", x.peek(3, 0), -999);
            edges.is("999", x.peek(3, 999), 999);
        });
        edges.edge("29 HIDDEN: not there", x -> {
            Edges.three(x);
            x.build(0, 0);
            for (int key : new int[] {LEAST, -1, 0, 9, 999, 1000, MOST}) {
                edges.quiet("peek(0, " + key + ")", x, HIDDEN, y -> y.peek(0, key));
            }
            x.cut(0, 0, 999);
            edges.quiet("none at all", x, HIDDEN, y -> y.peek(0, -1));
        });
        edges.edge("29 HIDDEN: STALE", x -> {
            Edges.three(x);
            edges.quiet("not opened yet", x, HIDDEN, y -> y.peek(0, 1));
            x.build(0, 0);
            x.freeze(0);
            edges.quiet("FROZEN", x, HIDDEN, y -> y.peek(0, 1));
        });
        edges.edge("29 HIDDEN: no such one", x -> {
            Edges.three(x);
            x.build(0, 0);
            x.build(3, 0);
            for (int builder : Edges.NO_BUILDERS) {
                edges.quiet("peek(" + builder + ", 1)", x, HIDDEN, y -> y.peek(builder, 1));
            }
        });
    }

    // ---- promise 30
    private static void asking() {
        edges.edge("30 of none, of sixty KEYS", x -> {
            x.wide(3);
            x.text(0);
            x.build(0, 0);
            int[] empty = {0, 1, 0, 0};
            for (int what = 0; what < 4; what++) {
                edges.is("empty " + what, x.builder(0, what), empty[what]);
            }
            Due.layAll(x, 0, 0, 59, 1);
            int[] full = {60, 56, 56, 0};
            for (int what = 0; what < 4; what++) {
                edges.is("full " + what, x.builder(0, what), full[what]);
            }
        });
        edges.edge("30 HIDDEN: STALE", x -> {
            Edges.three(x);
            x.build(1, 0);
            x.freeze(1);
            for (int what = 0; what < 4; what++) {
                int asked = what;
                edges.quiet("not opened yet, " + what, x, HIDDEN, y -> y.builder(0, asked));
                edges.quiet("FROZEN, " + what, x, HIDDEN, y -> y.builder(1, asked));
            }
        });
        edges.edge("30 HIDDEN: no such BUILDER, no such what", x -> {
            Edges.three(x);
            for (int builder = 0; builder < 4; builder++) {
                x.build(builder, 0);
            }
            for (int builder : Edges.NO_BUILDERS) {
                edges.quiet("builder(" + builder + ", 0)", x, HIDDEN, y -> y.builder(builder, 0));
            }
            for (int what : new int[] {LEAST, -1, 4, 5, MOST}) {
                edges.quiet("builder(0, " + what + ")", x, HIDDEN, y -> y.builder(0, what));
            }
        });
    }

    // ---- promise 31
    /** What the draws of a seed ask for: three numbers for each, by whole arithmetic without a sign. */
    private static int[][] drawn(int n, long seed) {
        long x = seed;
        int[][] all = new int[n][3];
        int[] of = {4, 100, 19};
        for (int i = 0; i < n; i++) {
            for (int j = 0; j < 3; j++) {
                x = x * 6364136223846793005L + 1442695040888963407L;
                all[i][j] = (int) (Long.divideUnsigned(x, 1L << 33) % of[j]);
            }
        }
        return all;
    }

    private static void byHand(WideMap x, int builder, int n, long seed) {
        for (int[] draw : drawn(n, seed)) {
            if (draw[0] < 2) {
                x.lay(builder, draw[1], draw[2] - 9);
            } else if (draw[0] == 2) {
                x.add(builder, draw[1], draw[2] - 9);
            } else {
                x.take(builder, draw[1]);
            }
        }
    }

    private static void drawing() {
        for (long s : new long[] {0, 1, -1, 2, 77, Long.MIN_VALUE, Long.MAX_VALUE, 1L << 33, -(1L << 33)}) {
            long seed = s;
            edges.edge("31 64 bits, going round, without sign: the seed " + seed, x -> {
                for (int n : new int[] {1, 2, 30}) {
                    x.wide(3);
                    x.text(0);
                    x.build(0, 0);
                    x.build(1, 0);
                    int before = x.count(3);
                    byHand(x, 1, n, seed);
                    int made = x.count(3) - before;
                    edges.is("n " + n, x.draws(0, n, seed), made);
                    int one = x.freeze(0);
                    int other = x.freeze(1);
                    edges.is("alike", x.alike(one, other, 1), 1);
                }
            });
        }
        edges.edge("31 known draws", x -> {
            // reckoned apart: 3 24 1, 0 25 6; 2 53 11, 2 34 10; 0 43 9, 2 64 2; 3 48 9, 0 49 14
            long[] seeds = {0, 1, -1, Long.MIN_VALUE};
            String[] shown = {"[25:-3]", "[34:1 53:2]", "[43:0 64:-7]", "[49:5]"};
            x.text(0);
            for (int i = 0; i < seeds.length; i++) {
                x.build(0, 0);
                edges.is("seed " + seeds[i], x.draws(0, 2, seeds[i]), 1);
                edges.looks(x, x.freeze(0), shown[i]);
            }
        });
        edges.edge("31 nothing, where that can't be: more than 60", x -> {
            int far = Due.full(x, 1);
            x.build(0, far);
            x.inc(0, 0, 59, 1);
            x.cut(0, 0, 59);
            Due.layAll(x, 0, 200, 259, 1);
            for (int i = 0; i < 6; i++) {
                edges.is("draws", x.draws(0, 30, i), 0);
            }
            edges.is("KEYS", x.builder(0, 0), 60);
            edges.is("total", x.total(x.freeze(0), 200, 259), 60);
            edges.is("no STATUS", x.status(3), 0);
        });
        edges.edge("31 a draw that can't be is passed over, the next ones are done", x -> {
            x.build(0, Due.full(x, 1));
            x.build(1, Due.full(x, 1));
            byHand(x, 1, 30, 9);
            x.draws(0, 30, 9);
            edges.is("alike", x.alike(x.freeze(0), x.freeze(1), 0), 1);
            edges.is("some could not be", x.status(3) > 0, true);
        });
    }

    private static void drawingRefused() {
        edges.edge("31 n (1 .. 30)", x -> {
            x.text(0);
            x.build(0, 0);
            edges.is("1", x.draws(0, 1, 5) >= 0, true);
            edges.is("30", x.draws(0, 30, 5) >= 0, true);
            edges.is("no STATUS", x.status(1), 0);
        });
    }

    // ---- promise 33
    private static void running() {
        edges.edge("33 how many STEPS were done: one, sixteen", x -> {
            x.text(0);
            x.build(0, 0);
            Due.program(x, "put 1 1");
            Due.program(x, "add 1 1;".repeat(15) + "add 1 1");
            edges.is("one", x.run(0, 0), 1);
            edges.is("sixteen", x.run(1, 0), 16);
            edges.is("peek", x.peek(0, 1), 17);
        });
        edges.edge("33 a cut, an inc from above to does nothing", x -> {
            Edges.three(x);
            x.build(0, 0);
            Due.program(x, "cut 5 4;inc 8 1 5;cut 999 0;inc 2 1 -1");
            edges.quiet("all are done", x, 4, y -> y.run(0, 0));
        });
        edges.edge("33 a cut, an inc of one KEY does it", x -> {
            Due.map(x, "0:0,5:5,999:9");
            x.build(0, 0);
            Due.program(x, "cut 5 5;inc 999 999 990;inc 0 0 -999");
            edges.is("all are done", x.run(0, 0), 3);
            edges.looks(x, x.snap(0), "[0:-999 999:999]");
        });
        edges.edge("33 a del, a cut, an inc of none there is done", x -> {
            x.text(0);
            x.build(0, 0);
            Due.program(x, "del 5;cut 0 999;inc 0 999 5");
            edges.quiet("all are done", x, 3, y -> y.run(0, 0));
        });
        edges.edge("33 add, inc: held within -999 .. 999", x -> {
            Due.map(x, "1:998,2:-998");
            x.build(0, 0);
            Due.program(x, "add 1 1;add 2 -1;add 1 1;inc 2 2 -1;add 3 -999");
            edges.is("all are done", x.run(0, 0), 5);
            edges.looks(x, x.snap(0), "[1:999 2:-999 3:-999]");
        });
    }

    private static void runningStops() {
        edges.edge("33 up to one that can't be: a put of more than 60 KEYS", x -> {
            full(x);
            Due.program(x, "put 59 9;put 60 9;put 58 9");
            edges.is("one was done", x.run(0, 0), 1);
            edges.is("the first", x.peek(0, 59), 9);
            edges.is("not the second", x.peek(0, 60), HIDDEN);
            edges.is("not the third", x.peek(0, 58), 1);
            edges.is("no STATUS", x.status(3), 0);
        });
        edges.edge("33 up to one that can't be: an add of more than 60 KEYS", x -> {
            full(x);
            Due.program(x, "add 999 1;add 0 1");
            edges.quiet("none was done", x, 0, y -> y.run(0, 0));
        });
        edges.edge("33 sixty KEYS can be", x -> {
            full(x);
            Due.program(x, "del 0;put 60 1;del 1;add 999 1");
            edges.is("all are done", x.run(0, 0), 4);
            edges.is("KEYS", x.builder(0, 0), 60);
        });
        edges.edge("33 up to one that can't be: a snap without room, sixteen are held", x -> {
            x.text(0);
            x.build(0, 0);
            for (int i = 1; i < 15; i++) {
                x.lacking(0, 0);
            }
            Due.program(x, "put 1 1;snap;put 2 2;snap;put 3 3");
            edges.is("three were done", x.run(0, 0), 3);
            edges.is("sixteen are held", x.count(1), 16);
            edges.is("the second snap was not", x.builder(0, 3), 15);
            edges.is("the put ahead of it was", x.peek(0, 2), 2);
            edges.is("the put behind it was not", x.peek(0, 3), HIDDEN);
            edges.is("no STATUS", x.status(4), 0);
            edges.looks(x, 15, "[1:1]");
        });
        edges.edge("33 up to one that can't be: a snap without room, no number is left", x -> {
            x.text(0);
            Edges.spend(x, 2);
            x.build(0, 0);
            edges.is("two of sixteen snaps", x.run(0, 0), 2);
            edges.is("the last", x.builder(0, 3), 998);
            edges.quiet("none then", x, 0, y -> y.run(0, 0));
        });
    }

    private static void runningRefused() {
        edges.edge("33 NONE: no such PROGRAM (STATUS 0)", x -> {
            Edges.three(x);
            x.build(0, 0);
            Due.program(x, "snap");
            for (int program : Edges.NO_PROGRAMS) {
                edges.refused("run(" + program + ", 0)", x, 0, y -> y.run(program, 0));
            }
            edges.refused("the next one", x, 0, y -> y.run(1, 0));
        });
        edges.edge("33 NONE: no such BUILDER (STATUS 0)", x -> {
            Edges.three(x);
            Due.program(x, "snap");
            for (int builder : Edges.NO_BUILDERS) {
                edges.refused("run(0, " + builder + ")", x, 0, y -> y.run(0, builder));
            }
            edges.refused("neither", x, 0, y -> y.run(4, 4));
        });
        edges.edge("33 NONE: STALE (2)", x -> {
            Edges.three(x);
            Due.program(x, "snap");
            edges.refused("not opened yet", x, 2, y -> y.run(0, 3));
            x.build(3, 0);
            edges.is("open", x.run(0, 3), 1);
            x.freeze(3);
            edges.refused("FROZEN", x, 2, y -> y.run(0, 3));
        });
        edges.edge("33 of several the first: no such PROGRAM, STALE", x -> {
            Edges.three(x);
            edges.refused("run(0, 0)", x, 0, y -> y.run(0, 0));
        });
        edges.edge("33 of several the first: STALE, a STEP that can't be", x -> {
            Edges.three(x);
            Edges.crowd(x);
            Due.program(x, "snap");
            edges.refused("run(0, 0)", x, 2, y -> y.run(0, 0));
        });
    }
}
