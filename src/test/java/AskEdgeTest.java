/** Boundary cases of what is asked of one MAP, of STATUS and of all: promises 7 to 13 and 40 to 46. */
public final class AskEdgeTest {
    private static final int NONE = Edges.NONE;
    private static final int HIDDEN = Edges.HIDDEN;
    private static final int LEAST = Edges.LEAST;
    private static final int MOST = Edges.MOST;

    private static Edges edges;

    public static void main(String[] args) {
        edges = new Edges("AskEdgeTest");
        finding();
        keys();
        abouts();
        belows();
        inTurn();
        nears();
        totals();
        nodes();
        nodesHidden();
        showing();
        digests();
        statuses();
        images();
        backs();
        counts();
        live();
        edges.close();
    }

    // ---- promise 7
    private static void finding() {
        edges.edge("7 The VALUE of a KEY, the least and the greatest of both", x -> {
            Due.map(x, "0:-999,1:999,500:0,998:-1,999:999");
            edges.is("0", x.find(0, 0), -999);
            edges.is("1", x.find(0, 1), 999);
            edges.is("500", x.find(0, 500), 0);
            edges.is("998", x.find(0, 998), -1);
            edges.is("999", x.find(0, 999), 999);
        });
        edges.edge("7 HIDDEN: not there", x -> {
            Edges.three(x);
            for (int key : new int[] {0, 9, 10, 999}) {
                edges.quiet("find(0, " + key + ")", x, HIDDEN, y -> y.find(0, key));
            }
            edges.is("between two leaves", x.find(2, 4), HIDDEN);
            x.slice(2, 999, 999);
            edges.is("in an empty one", x.find(3, 0), HIDDEN);
        });
        edges.edge("7 HIDDEN: no KEY at all is not there", x -> {
            Edges.three(x);
            x.slice(0, 999, 999);
            for (int key : Edges.NO_KEYS) {
                edges.quiet("find(0, " + key + ")", x, HIDDEN, y -> y.find(0, key));
                edges.quiet("find(3, " + key + ")", x, HIDDEN, y -> y.find(3, key));
            }
        });
        edges.edge("7 HIDDEN: no such MAP", x -> {
            Edges.three(x);
            for (int map : Edges.noMaps()) {
                edges.quiet("find(" + map + ", 5)", x, HIDDEN, y -> y.find(map, 5));
            }
        });
    }

    // ---- promise 8
    private static void keys() {
        edges.edge("8 The i-th KEY, the first and the last", x -> {
            Due.map(x, "999:1,0:2,5:3,7:4,8:5");
            int[] all = {0, 5, 7, 8, 999};
            for (int i = 0; i < all.length; i++) {
                edges.is("key(0, " + i + ")", Edges.keyOf(x, 0, i), all[i]);
            }
        });
        edges.edge("8 the sixtieth KEY", x -> {
            int full = Due.full(x, 1);
            edges.is("59", Edges.keyOf(x, full, 59), 59);
            edges.quiet("60", x, Edges.THROWN, y -> Edges.keyOf(y, full, 60));
        });
        edges.edge("8 NoSuchElementException: no such one", x -> {
            Edges.three(x);
            for (int i : new int[] {LEAST, -1, 8, 9, 60, MOST}) {
                edges.quiet("key(0, " + i + ")", x, Edges.THROWN, y -> Edges.keyOf(y, 0, i));
            }
        });
        edges.edge("8 NoSuchElementException: none in an empty MAP", x -> {
            x.text(0);
            edges.quiet("key(0, 0)", x, Edges.THROWN, y -> Edges.keyOf(y, 0, 0));
            edges.quiet("key(0, -1)", x, Edges.THROWN, y -> Edges.keyOf(y, 0, -1));
        });
        edges.edge("8 NoSuchElementException: no such MAP", x -> {
            Edges.three(x);
            for (int map : Edges.noMaps()) {
                edges.quiet("key(" + map + ", 0)", x, Edges.THROWN, y -> Edges.keyOf(y, map, 0));
            }
        });
    }

    // ---- promise 9
    private static void abouts() {
        edges.edge("9 of an empty MAP", x -> {
            x.text(0);
            int[] all = {0, 1, 1, 1, 0, NONE, NONE};
            for (int what = 0; what < all.length; what++) {
                edges.is("about(0, " + what + ")", x.about(0, what), all[what]);
            }
        });
        edges.edge("9 of a MAP of sixty", x -> {
            x.wide(3);
            int full = Due.full(x, -999);
            int[] all = {60, 5, 56, 30, -59940, 0, NONE};
            for (int what = 0; what < all.length; what++) {
                edges.is("about(full, " + what + ")", x.about(full, what), all[what]);
            }
        });
        edges.edge("9 4 VALUES added up, of the least and the greatest KEY", x -> {
            Due.map(x, "0:-999");
            Due.map(x, "999:-999");
            Due.map(x, "0:1,500:10,999:100");
            edges.is("0", x.about(0, 4), -999);
            edges.is("999", x.about(1, 4), -999);
            edges.is("all", x.about(2, 4), 111);
        });
        edges.edge("9 1 LEVELS (a LEAF alone: 1)", x -> {
            x.wide(3);
            for (int keys : new int[] {1, 3, 4, 7, 8}) {
                int map = Due.map(x, Due.rising(1, keys, 1));
                edges.is(keys + " KEYS", x.about(map, 1), keys < 4 ? 1 : keys < 8 ? 2 : 3);
            }
        });
        edges.edge("9 5, 6 the one, the two it comes from (NONE)", x -> {
            Due.map(x, "1:1");
            x.having(0, 2, 2);
            x.merge(1, 0, 0);
            int[][] from = {{NONE, NONE}, {0, NONE}, {1, 0}};
            for (int map = 0; map < 3; map++) {
                edges.is("the one of " + map, x.about(map, 5), from[map][0]);
                edges.is("the other of " + map, x.about(map, 6), from[map][1]);
            }
        });
        edges.edge("9 HIDDEN: no such what", x -> {
            Edges.three(x);
            for (int what : new int[] {LEAST, -1, 7, 8, MOST}) {
                edges.quiet("about(0, " + what + ")", x, HIDDEN, y -> y.about(0, what));
            }
        });
        edges.edge("9 HIDDEN: no such MAP", x -> {
            Edges.three(x);
            for (int map : Edges.noMaps()) {
                for (int what = 0; what < 7; what++) {
                    int asked = what;
                    edges.quiet("about(" + map + ", " + what + ")", x, HIDDEN, y -> y.about(map, asked));
                }
            }
        });
    }

    // ---- promise 10
    private static void belows() {
        edges.edge("10 How many KEYS are below one: it itself is not", x -> {
            Due.map(x, "10:1,20:2,30:3,40:4,50:5");
            int[] keys = {0, 9, 10, 11, 19, 20, 21, 30, 40, 49, 50, 51, 999};
            int[] below = {0, 0, 0, 1, 1, 1, 2, 2, 3, 4, 4, 5, 5};
            for (int i = 0; i < keys.length; i++) {
                edges.is("below(0, " + keys[i] + ")", x.below(0, keys[i]), below[i]);
            }
        });
        edges.edge("10 below one that no KEY can be", x -> {
            Due.map(x, "0:1,999:2");
            edges.is("least", x.below(0, LEAST), 0);
            edges.is("-1", x.below(0, -1), 0);
            edges.is("0", x.below(0, 0), 0);
            edges.is("999", x.below(0, 999), 1);
            edges.is("1000", x.below(0, 1000), 2);
            edges.is("most", x.below(0, MOST), 2);
        });
        edges.edge("10 in an empty MAP, in one of sixty", x -> {
            int full = Due.full(x, 1);
            int empty = x.slice(full, 999, 999);
            edges.is("empty", x.below(empty, 999), 0);
            edges.is("none", x.below(full, 0), 0);
            edges.is("all but one", x.below(full, 59), 59);
            edges.is("all", x.below(full, 60), 60);
        });
        edges.edge("10 NONE: no such MAP", x -> {
            Edges.three(x);
            for (int map : Edges.noMaps()) {
                edges.quiet("below(" + map + ", 5)", x, NONE, y -> y.below(map, 5));
            }
        });
    }

    // ---- promises 7 to 13
    private static void inTurn() {
        edges.edge("7 to 13 of one MAP after another: none, one, sixty KEYS", x -> {
            int full = Due.full(x, 1);
            int empty = x.slice(full, 999, 999);
            int one = x.slice(full, 30, 30);
            int[] maps = {full, empty, one, empty, full, one, full};
            for (int map : maps) {
                boolean some = map != empty;
                edges.is("find", x.find(map, 30), some ? 1 : HIDDEN);
            }
            for (int map : maps) {
                edges.is("key", Edges.keyOf(x, map, 0), map == full ? 0 : map == one ? 30 : Edges.THROWN);
            }
            for (int map : maps) {
                edges.is("about", x.about(map, 0), map == full ? 60 : map == one ? 1 : 0);
            }
            for (int map : maps) {
                edges.is("below", x.below(map, 40), map == full ? 40 : map == one ? 1 : 0);
            }
            for (int map : maps) {
                edges.is("near", x.near(map, 40, 0), map == full ? 40 : map == one ? 30 : NONE);
            }
            for (int map : maps) {
                edges.is("total", x.total(map, 30, 40), map == full ? 11 : map == one ? 1 : 0);
            }
            for (int map : maps) {
                edges.is("node", x.node(map, 0, 5), map == full ? 60 : map == one ? 1 : 0);
            }
        });
    }

    // ---- promise 11
    private static void nears() {
        int[] keys = {LEAST, -1, 0, 9, 10, 11, 20, 21, 30, 31, 999, 1000, MOST};
        int[][] near = {
            {NONE, NONE, NONE, NONE, 10, 10, 20, 20, 30, 30, 30, 30, 30},
            {10, 10, 10, 10, 10, 20, 20, 30, 30, NONE, NONE, NONE, NONE},
            {NONE, NONE, NONE, NONE, NONE, 10, 10, 20, 20, 30, 30, 30, 30},
            {10, 10, 10, 10, 20, 20, 30, 30, NONE, NONE, NONE, NONE, NONE}};
        String[] words = {"0 the highest at or below it", "1 the lowest at or above it", "2 the highest below it",
            "3 the lowest above it"};
        for (int kind = 0; kind < 4; kind++) {
            int what = kind;
            edges.edge("11 " + words[what] + ", NONE: none", x -> {
                Due.map(x, "10:-1,20:0,30:1");
                for (int i = 0; i < keys.length; i++) {
                    edges.is("near(0, " + keys[i] + ")", x.near(0, keys[i], what), near[what][i]);
                }
            });
            edges.edge("11 " + words[what] + ", at the least and the greatest KEY", x -> {
                Due.map(x, "0:0,999:0");
                int[] ask = {-1, 0, 1, 998, 999, 1000};
                int[][] want = {{NONE, 0, 0, 0, 999, 999}, {0, 0, 999, 999, 999, NONE}, {NONE, NONE, 0, 0, 0, 999},
                    {0, 999, 999, 999, NONE, NONE}};
                for (int i = 0; i < ask.length; i++) {
                    edges.is("near(0, " + ask[i] + ")", x.near(0, ask[i], what), want[what][i]);
                }
            });
        }
        edges.edge("11 NONE: none in an empty MAP", x -> {
            x.text(0);
            for (int what = 0; what < 4; what++) {
                for (int key : new int[] {LEAST, -1, 0, 999, MOST}) {
                    int asked = what;
                    edges.quiet("near(0, " + key + ", " + what + ")", x, NONE, y -> y.near(0, key, asked));
                }
            }
        });
        edges.edge("11 NONE: no such MAP", x -> {
            Edges.three(x);
            for (int map : Edges.noMaps()) {
                edges.quiet("near(" + map + ", 5, 0)", x, NONE, y -> y.near(map, 5, 0));
            }
        });
        edges.edge("11 NONE: no such what", x -> {
            Edges.three(x);
            for (int what : new int[] {LEAST, -1, 4, 5, MOST}) {
                edges.quiet("near(0, 5, " + what + ")", x, NONE, y -> y.near(0, 5, what));
            }
        });
    }

    // ---- promise 12
    private static void totals() {
        edges.edge("12 from one to another: both belong to it", x -> {
            Due.map(x, "10:1,20:10,30:100,40:-500");
            edges.is("10 to 30", x.total(0, 10, 30), 111);
            edges.is("11 to 30", x.total(0, 11, 30), 110);
            edges.is("10 to 29", x.total(0, 10, 29), 11);
            edges.is("20 to 20", x.total(0, 20, 20), 10);
            edges.is("21 to 29", x.total(0, 21, 29), 0);
        });
        edges.edge("12 from below all to above all", x -> {
            Due.map(x, "0:1,999:10");
            edges.is("0 to 999", x.total(0, 0, 999), 11);
            edges.is("1 to 998", x.total(0, 1, 998), 0);
            edges.is("-1 to 1000", x.total(0, -1, 1000), 11);
            edges.is("least to most", x.total(0, LEAST, MOST), 11);
            edges.is("least to -1", x.total(0, LEAST, -1), 0);
            edges.is("1000 to most", x.total(0, 1000, MOST), 0);
        });
        edges.edge("12 from above to: none", x -> {
            Due.map(x, "5:1,6:10");
            edges.is("6 to 5", x.total(0, 6, 5), 0);
            edges.is("most to least", x.total(0, MOST, LEAST), 0);
        });
        edges.edge("12 none, and sixty", x -> {
            int full = Due.full(x, 999);
            int empty = x.slice(full, 999, 999);
            edges.is("empty", x.total(empty, 0, 999), 0);
            edges.is("all", x.total(full, 0, 59), 59940);
            edges.is("all but one", x.total(full, 1, 59), 58941);
        });
        edges.edge("12 HIDDEN: no such MAP", x -> {
            Edges.three(x);
            for (int map : Edges.noMaps()) {
                edges.quiet("total(" + map + ", 0, 9)", x, HIDDEN, y -> y.total(map, 0, 9));
            }
        });
    }

    // ---- promise 13
    private static void nodes() {
        edges.edge("13 of an empty MAP: 2 its lowest KEY (NONE)", x -> {
            x.text(0);
            int[] all = {1, 0, NONE, 0, 1, 0};
            for (int what = 0; what < all.length; what++) {
                edges.is("node(0, 0, " + what + ")", x.node(0, 0, what), all[what]);
            }
        });
        edges.edge("13 NODES are numbered as they are SHOWN, to the last one", x -> {
            x.wide(3);
            Due.map(x, Edges.EIGHT);
            int[][] all = {{0, 2, 1, 0, 1, 8}, {0, 2, 1, 1, 1, 4}, {1, 2, 1, 2, 1, 2}, {1, 2, 3, 2, 1, 2},
                {0, 2, 5, 1, 1, 4}, {1, 2, 5, 2, 1, 2}, {1, 2, 7, 2, 1, 2}};
            for (int i = 0; i < all.length; i++) {
                for (int what = 0; what < 6; what++) {
                    edges.is("node(0, " + i + ", " + what + ")", x.node(0, i, what), all[i][what]);
                }
            }
        });
        edges.edge("13 the last NODE of sixty KEYS", x -> {
            x.wide(3);
            int full = Due.full(x, 1);
            int last = x.about(full, 2) - 1;
            edges.is("a LEAF", x.node(full, last, 0), 1);
            edges.is("ENTRIES", x.node(full, last, 1), 2);
            edges.is("its lowest KEY", x.node(full, last, 2), 58);
            edges.is("how deep", x.node(full, last, 3), x.about(full, 1) - 1);
            edges.is("KEYS below the ROOT", x.node(full, 0, 5), 60);
            edges.quiet("no more", x, HIDDEN, y -> y.node(full, last + 1, 0));
        });
        edges.edge("13 4 in how many MAPS held it is: from one to sixteen", x -> {
            Due.map(x, "1:1");
            edges.is("one", x.node(0, 0, 4), 1);
            Edges.crowd(x);
            edges.is("sixteen", x.node(0, 0, 4), 16);
            x.drop(15);
            edges.is("fifteen", x.node(0, 0, 4), 15);
            x.having(0, 2, 2);
            edges.is("not the new one", x.node(0, 0, 4), 15);
            edges.is("the new one", x.node(16, 0, 4), 1);
        });
        edges.edge("13 4 MAPS not held and BUILDERS do not count", x -> {
            Due.map(x, "1:1");
            x.lacking(0, 2);
            x.lacking(0, 2);
            x.build(0, 0);
            edges.is("three", x.node(1, 0, 4), 3);
            x.drop(0);
            edges.is("two", x.node(1, 0, 4), 2);
        });
    }

    private static void nodesHidden() {
        edges.edge("13 HIDDEN: no such NODE", x -> {
            Edges.three(x);
            for (int i : new int[] {LEAST, -1, 7, 8, 64, MOST}) {
                for (int what = 0; what < 6; what++) {
                    int asked = what;
                    edges.quiet("node(0, " + i + ", " + what + ")", x, HIDDEN, y -> y.node(0, i, asked));
                }
            }
            x.slice(0, 999, 999);
            edges.quiet("an empty MAP has but one", x, HIDDEN, y -> y.node(3, 1, 0));
        });
        edges.edge("13 HIDDEN: no such what", x -> {
            Edges.three(x);
            for (int what : new int[] {LEAST, -1, 6, 7, MOST}) {
                edges.quiet("node(0, 0, " + what + ")", x, HIDDEN, y -> y.node(0, 0, what));
            }
        });
        edges.edge("13 HIDDEN: no such MAP", x -> {
            Edges.three(x);
            for (int map : Edges.noMaps()) {
                edges.quiet("node(" + map + ", 0, 1)", x, HIDDEN, y -> y.node(map, 0, 1));
            }
        });
    }

    // ---- promises 40, 41
    private static void showing() {
        edges.edge("40 an empty LEAF", x -> {
            x.text(0);
            edges.is("bytes", x.show(0), 2);
            edges.is("first", x.shown(0), '[');
            edges.is("last", x.shown(1), ']');
        });
        edges.edge("40 numbers without 0 ahead", x -> {
            Due.map(x, "000:000,009:-09,010:-010,099:99,100:-100,999:-999");
            edges.looks(x, 0, "([0:0 9:-9 10:-10][99:99 100:-100 999:-999])");
        });
        edges.edge("40 how many bytes of the longest", x -> {
            x.wide(3);
            x.text(0);
            x.build(0, 0);
            Due.layAll(x, 0, 100, 159, -999);
            x.freeze(0);
            int bytes = 60 * 8 + 30 + 2 * 56;
            edges.is("bytes", x.show(1), bytes);
            edges.is("the last", x.shown(bytes - 1), ')');
            edges.is("none", x.shown(bytes), NONE);
        });
        edges.edge("40 NONE: no such MAP, what was SHOWN latest stays", x -> {
            Edges.three(x);
            x.show(2);
            for (int map : Edges.noMaps()) {
                edges.quiet("show(" + map + ")", x, NONE, y -> y.show(map));
            }
            edges.is("as it was", x.shown(1), '2');
        });
        edges.edge("41 NONE: none, ahead of the first and behind the last", x -> {
            Due.map(x, "1:2");
            x.show(0);
            edges.is("the last", x.shown(4), ']');
            for (int i : new int[] {LEAST, -1, 5, 6, 700, 1000, MOST}) {
                edges.quiet("shown(" + i + ")", x, NONE, y -> y.shown(i));
            }
        });
        edges.edge("41 NONE: nothing was SHOWN yet", x -> {
            Due.map(x, "1:2");
            edges.quiet("shown(0)", x, NONE, y -> y.shown(0));
            x.digest(0);
            x.alike(0, 0, 1);
            edges.quiet("shown(0) after DIGEST", x, NONE, y -> y.shown(0));
        });
        edges.edge("41 SHOWN latest, a shorter one behind a longer one", x -> {
            Due.map(x, "100:200,300:400");
            x.lacking(0, 100);
            x.show(0);
            x.show(1);
            edges.is("the last", x.shown(8), ']');
            edges.is("no more", x.shown(9), NONE);
        });
    }

    // ---- promise 42
    private static void digests() {
        edges.edge("42 of an empty MAP", x -> {
            x.text(0);
            edges.is("digest", x.digest(0), 91 * 31 + 93);
        });
        edges.edge("42 modulo 1,000,003: below it, round it", x -> {
            Due.map(x, "");
            Due.map(x, "1:1");
            String[] texts = {"[]", "[1:1]"};
            for (int map = 0; map < 2; map++) {
                long sum = 0;
                for (char sign : texts[map].toCharArray()) {
                    sum = sum * 31 + sign;
                }
                edges.is("round", sum >= 1000003, map == 1);
                edges.is("digest(" + map + ")", x.digest(map), sum % 1000003);
            }
        });
        edges.edge("42 of the longest", x -> {
            x.wide(3);
            int full = Due.full(x, -999);
            long sum = 0;
            for (char sign : Due.shown(x, full).toCharArray()) {
                sum = (sum * 31 + sign) % 1000003;
            }
            edges.is("digest", x.digest(full), sum);
        });
        edges.edge("42 NONE: no such MAP", x -> {
            Edges.three(x);
            for (int map : Edges.noMaps()) {
                edges.quiet("digest(" + map + ")", x, NONE, y -> y.digest(map));
            }
        });
    }

    // ---- promise 43
    private static void statuses() {
        edges.edge("43 STATUS of each kind", x -> {
            int full = Due.full(x, 1);
            for (int what = 0; what < 5; what++) {
                edges.is("at first " + what, x.status(what), 0);
            }
            x.drop(99);
            x.build(0, full);
            for (int i = 0; i < 2; i++) {
                x.lay(0, 1000, 0);
            }
            for (int i = 0; i < 3; i++) {
                x.lay(1, 1, 1);
            }
            for (int i = 0; i < 4; i++) {
                x.lay(0, 60, 1);
            }
            while (x.count(1) < 16) {
                x.lacking(full, 60);
            }
            for (int i = 0; i < 5; i++) {
                x.snap(0);
            }
            for (int what = 0; what < 5; what++) {
                edges.is("then " + what, x.status(what), what + 1);
            }
        });
        edges.edge("43 NONE: no such what", x -> {
            for (int what : new int[] {LEAST, -1, 5, 6, MOST}) {
                edges.quiet("status(" + what + ")", x, NONE, y -> y.status(what));
            }
        });
    }

    // ---- promise 44
    private static void images() {
        edges.edge("44 how many MAPS are held: none, sixteen", x -> {
            edges.quiet("none", x, 0, WideMap::image);
            x.text(0);
            edges.quiet("one", x, 1, WideMap::image);
            Edges.crowd(x);
            edges.quiet("sixteen", x, 16, WideMap::image);
        });
        edges.edge("44 An IMAGE (instead of the one ahead)", x -> {
            Edges.three(x);
            x.image();
            x.drop(0);
            edges.is("image", x.image(), 1);
            x.text(0);
            edges.is("back", x.back(), 1);
            edges.is("the one ahead is no more", x.find(0, 1), HIDDEN);
            edges.is("this one is", x.find(2, 3), 3);
        });
        edges.edge("44 an IMAGE of none instead of one of two", x -> {
            Edges.three(x);
            x.image();
            x.drop(0);
            x.drop(2);
            edges.is("image", x.image(), 0);
            edges.is("back", x.back(), 0);
            edges.is("held", x.count(1), 0);
        });
        edges.edge("44 an IMAGE keeps nothing LIVE", x -> {
            Edges.three(x);
            x.image();
            x.drop(0);
            edges.is("LIVE", x.count(4), 1);
        });
        edges.edge("44 an IMAGE of the MAP of the last number", x -> {
            x.text(0);
            Edges.spend(x, 1);
            int last = Due.map(x, "1:5");
            edges.is("last", last, 998);
            x.image();
            x.drop(998);
            x.drop(0);
            edges.is("back", x.back(), 2);
            edges.is("find", x.find(998, 1), 5);
        });
    }

    // ---- promise 45
    private static void backs() {
        edges.edge("45 NONE: no IMAGE since OPEN", x -> {
            edges.refused("a new object", x, Edges.NO_STATUS, WideMap::back);
            Edges.three(x);
            x.build(0, 0);
            edges.refused("after OPEN", x, Edges.NO_STATUS, WideMap::back);
            x.image();
            x.wide(3);
            edges.refused("after OPEN again", x, Edges.NO_STATUS, WideMap::back);
        });
        edges.edge("45 BACK to an IMAGE of none", x -> {
            edges.is("image", x.image(), 0);
            x.text(0);
            edges.is("back", x.back(), 0);
            edges.is("held", x.count(1), 0);
            edges.is("gone", x.about(0, 0), HIDDEN);
        });
        edges.edge("45 they are held again, no others", x -> {
            Edges.three(x);
            x.image();
            x.drop(0);
            x.drop(2);
            x.text(0);
            edges.is("back", x.back(), 2);
            edges.is("0", x.about(0, 0), 8);
            edges.is("1 was not", x.about(1, 0), HIDDEN);
            edges.is("2", x.about(2, 0), 3);
            edges.is("3 is not", x.about(3, 0), HIDDEN);
            edges.is("LIVE", x.count(4), 8);
        });
        edges.edge("45 BACK of a full house, and room again after one of none", x -> {
            x.image();
            x.text(0);
            Edges.crowd(x);
            edges.is("no room", x.text(0), NONE);
            edges.is("back", x.back(), 0);
            edges.is("room", x.text(0), 16);
            Edges.crowd(x);
            edges.is("held by number 0 no more", x.count(1), 1);
            for (int i = 0; i < 15; i++) {
                x.text(0);
            }
            edges.is("image", x.image(), 16);
            for (int map = 16; map < 20; map++) {
                x.drop(map);
            }
            edges.is("back", x.back(), 16);
            edges.is("no room", x.text(0), NONE);
        });
        edges.edge("45 all BUILDERS are STALE", x -> {
            Edges.three(x);
            x.image();
            for (int builder = 0; builder < 4; builder++) {
                x.build(builder, 0);
            }
            edges.is("back", x.back(), 2);
            edges.is("not STALE", x.count(7), 0);
            for (int builder = 0; builder < 4; builder++) {
                int b = builder;
                edges.refused("take", x, 2, y -> y.take(b, 1));
            }
        });
        edges.edge("45 numbers, MADE go on", x -> {
            Edges.three(x);
            x.image();
            x.having(0, 1, 5);
            int made = x.count(3);
            x.back();
            edges.is("given", x.count(2), 4);
            edges.is("MADE", x.count(3), made);
            edges.is("no number comes again", x.having(0, 1, 6), 4);
            edges.is("what is not held is known still", x.comesFrom(4, 3), 0);
        });
        edges.edge("45 BACK twice", x -> {
            Edges.three(x);
            x.image();
            x.drop(0);
            edges.is("once", x.back(), 2);
            x.drop(2);
            edges.is("twice", x.back(), 2);
            edges.is("find", x.find(2, 3), 3);
        });
        edges.edge("45 BACK leaves TAPE, PROGRAMS, STATUS, SHOWN", x -> {
            Edges.three(x);
            Due.program(x, "del 7");
            Due.tape(x, "1:2");
            x.show(2);
            x.drop(99);
            x.image();
            edges.quiet("back", x, 2, WideMap::back);
        });
    }

    // ---- promise 46
    private static void counts() {
        edges.edge("46 HIDDEN for others", x -> {
            Edges.three(x);
            for (int what : new int[] {LEAST, -1, 8, 9, MOST}) {
                edges.quiet("count(" + what + ")", x, HIDDEN, y -> y.count(what));
            }
        });
        edges.edge("46 of a new object", x -> {
            int[] all = {4, 0, 0, 0, 0, 0, 0, 0};
            for (int what = 0; what < all.length; what++) {
                edges.is("count(" + what + ")", x.count(what), all[what]);
            }
        });
        edges.edge("46 the most of MAPS, numbers, PROGRAMS, bytes", x -> {
            x.text(0);
            Edges.crowd(x);
            edges.is("MAPS held", x.count(1), 16);
            Edges.spend(x, 0);
            edges.is("numbers given", x.count(2), 999);
            edges.is("MADE", x.count(3), 1);
            for (int i = 0; i < 5; i++) {
                Due.program(x, "snap");
            }
            edges.is("PROGRAMS", x.count(5), 4);
            Due.tape(x, " ".repeat(240));
            edges.is("bytes", x.count(6), 240);
        });
        edges.edge("46 7 BUILDERS (bits) not STALE", x -> {
            x.text(0);
            int[] order = {3, 0, 2, 1};
            int[] bits = {8, 9, 13, 15};
            for (int i = 0; i < 4; i++) {
                x.build(order[i], 0);
                edges.is("with " + order[i], x.count(7), bits[i]);
            }
            x.build(3, 0);
            edges.is("opened again", x.count(7), 15);
            int[] less = {7, 6, 2, 0};
            for (int i = 0; i < 4; i++) {
                x.freeze(order[i]);
                edges.is("without " + order[i], x.count(7), less[i]);
            }
        });
    }

    private static void live() {
        edges.edge("46 4 LIVE: none, and unlike NODES once", x -> {
            edges.is("none", x.count(4), 0);
            x.wide(3);
            Due.map(x, Edges.EIGHT);
            edges.is("all of one", x.count(4), 7);
            Edges.crowd(x);
            edges.is("sixteen times the same", x.count(4), 7);
            for (int builder = 0; builder < 4; builder++) {
                x.build(builder, 0);
            }
            edges.is("and four times in BUILDERS", x.count(4), 7);
        });
        edges.edge("46 4 LIVE: of BUILDERS not STALE alone", x -> {
            x.wide(3);
            Due.map(x, Edges.EIGHT);
            x.build(3, 0);
            x.lay(3, 1, 2);
            edges.is("three more", x.count(4), 10);
            x.drop(0);
            edges.is("the BUILDER's", x.count(4), 7);
            x.image();
            x.back();
            edges.is("STALE", x.count(4), 0);
        });
        edges.edge("46 4 LIVE: of each of the four BUILDERS", x -> {
            x.wide(3);
            Due.map(x, "1:1");
            for (int builder = 0; builder < 4; builder++) {
                x.build(builder, 0);
                x.lay(builder, 2, builder);
                edges.is("with " + builder, x.count(4), 2 + builder);
            }
        });
        edges.edge("46 4 LIVE: of the last number, too", x -> {
            x.text(0);
            Edges.spend(x, 1);
            Due.map(x, "1:1");
            edges.is("two", x.count(4), 2);
            x.drop(0);
            edges.is("one", x.count(4), 1);
            x.drop(998);
            edges.is("none", x.count(4), 0);
        });
    }
}
