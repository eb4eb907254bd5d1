import java.util.NoSuchElementException;

/** For each promise of the document: ordinary calls, the edges that it names, wrong calls. */
public final class PromiseTest {
    private static final int NONE = -1;
    private static final int HIDDEN = -1000000;
    private static final int LEAST = Integer.MIN_VALUE;
    private static final int MOST = Integer.MAX_VALUE;
    private static final String EIGHT = "1:1,2:2,3:3,4:4,5:5,6:6,7:7,8:8";

    private static Due due;

    public static void main(String[] args) {
        due = new Due("PromiseTest");
        newObject();
        tape();
        faultsOfMaps();
        faultsOfPrograms();
        texts();
        programTexts();
        widths();
        lookups();
        nearAndTotal();
        nodes();
        growing();
        shrinking();
        having();
        lacking();
        merges();
        mergeRefused();
        threes();
        threeRefused();
        slices();
        drops();
        builders();
        laying();
        taking();
        adding();
        cutting();
        raising();
        snapping();
        peeking();
        drawing();
        stepping();
        running();
        sharing();
        differing();
        alike();
        lines();
        showing();
        statuses();
        images();
        counts();
        numbersRunOut();
        oddArguments();
        due.close();
    }

    private static void is(String call, long got, long want) {
        due.is(call, got, want);
    }

    private static void is(String call, boolean got, boolean want) {
        due.is(call, got, want);
    }

    private static void looks(WideMap x, int map, String want) {
        due.is("show(" + map + ")", Due.shown(x, map), want);
    }

    private static WideMap narrow() {
        WideMap x = new WideMap();
        x.wide(3);
        return x;
    }

    // ---- promise 1
    private static void newObject() {
        WideMap x = new WideMap();
        is("NONE", WideMap.NONE, NONE);
        is("HIDDEN", WideMap.HIDDEN, HIDDEN);
        is("1 width", x.count(0), 4);
        for (int what = 1; what <= 7; what++) {
            is("1 count " + what, x.count(what), 0);
        }
        is("1 shown", x.shown(0), NONE);
        is("1 back", x.back(), NONE);
        Due.map(x, "1:1,2:2,3:3,4:4,5:5");
        looks(x, 0, "([1:1 2:2 3:3][4:4 5:5])");
    }

    // ---- promises 2, 3
    private static void tape() {
        WideMap x = new WideMap();
        is("2 zeros left out", x.feed(0x31003a00, 0, 0x00000032, 0, 0x2c000000), 4);
        is("2 highest first", x.fault(0), 4);
        is("3 behind", x.end(5), false);
        is("3 below", x.end(-1), false);
        is("3 least", x.end(LEAST), false);
        is("2 as it was", x.count(6), 4);
        is("3 same", x.end(4), true);
        is("3 fewer", x.end(3), true);
        is("3 told", x.count(6), 3);
        is("2 told", x.fault(0), NONE);
        is("3 none", x.end(0), true);
        is("3 nothing left", x.end(1), false);
        is("2 high bytes", x.feed(0xff80ff01, -1, 0, 0, 0), 8);
        is("2 high byte is a sign", x.fault(0), 0);
        x.end(0);
        for (int i = 1; i <= 11; i++) {
            is("2 twenty more", x.feed(-1, -1, -1, -1, -1), 20 * i);
        }
        is("2 nothing more", x.feed(0, 0, 0, 0, 0), 220);
        is("2 nineteen", x.feed(-1, -1, -1, -1, 0x00ffffff), 239);
        is("2 refused whole", x.feed(0x61000000, 0, 0, 0, 0x61), NONE);
        is("2 kept", x.count(6), 239);
        for (int i = 0; i < 5; i++) {
            int[] n = new int[5];
            n[i] = 0x6162;
            is("2 refused by number " + i, x.feed(n[0], n[1], n[2], n[3], n[4]), NONE);
        }
        is("2 240", x.feed(0, 0, 0x00610000, 0, 0), 240);
        is("2 241", x.feed(0, 0, 0, 0, 1), NONE);
        is("2 zeros again", x.feed(0, 0, 0, 0, 0), 240);
        for (int what = 0; what < 5; what++) {
            is("2 no status", x.status(what), 0);
        }
    }

    private static void fault(WideMap x, int sort, String text, int want) {
        Due.tape(x, text);
        is("4 fault(" + sort + ") of \"" + text + "\"", x.fault(sort), want);
        is("4 keeps the tape", x.count(6), text.length());
    }

    // ---- promise 4
    private static void faultsOfMaps() {
        WideMap x = new WideMap();
        is("4 no such sort", x.fault(2), -2);
        is("4 no such sort", x.fault(-1), -2);
        is("4 no such sort", x.fault(LEAST), -2);
        fault(x, 0, "", NONE);
        fault(x, 0, "   ", NONE);
        fault(x, 0, "1:2", NONE);
        fault(x, 0, " 1 : 2 , 999 : -999 ", NONE);
        fault(x, 0, "000:-000", NONE);
        fault(x, 0, "0001:1", 3);
        fault(x, 0, "1:0001", 5);
        fault(x, 0, "1:-0001", 6);
        fault(x, 0, "1:-", 3);
        fault(x, 0, "1:- 1", 3);
        fault(x, 0, "1:--1", 3);
        fault(x, 0, "-1:1", 0);
        fault(x, 0, "1 1:1", 2);
        fault(x, 0, "1:1 1", 4);
        fault(x, 0, "1:1,", 4);
        fault(x, 0, "1:1, ", 5);
        fault(x, 0, "1:1,,", 4);
        fault(x, 0, ",", 0);
        fault(x, 0, "1", 1);
        fault(x, 0, "1 ", 2);
        fault(x, 0, "1:", 2);
        fault(x, 0, "1: ", 3);
        fault(x, 0, "1::1", 2);
        fault(x, 0, "1:1;", 3);
        fault(x, 0, "1:+1", 2);
        fault(x, 0, "1:1\t", 3);
        fault(x, 0, "1:1\u00ff", 3);
        fault(x, 0, "1:1,2:2,3:x", 10);
    }

    private static void faultsOfPrograms() {
        WideMap x = new WideMap();
        fault(x, 1, "", 0);
        fault(x, 1, "  ", 2);
        fault(x, 1, "snap", NONE);
        fault(x, 1, "  snap  ;  snap  ", NONE);
        fault(x, 1, "put1 -2", NONE);
        fault(x, 1, "put1-2", NONE);
        fault(x, 1, "put1 2;del1;add2-3;cut4 5;inc6 7-8", NONE);
        fault(x, 1, "put 12", 6);
        fault(x, 1, "put 1234", 7);
        fault(x, 1, "put 1 1234", 9);
        fault(x, 1, "put 1 -1234", 10);
        fault(x, 1, "put 1 - 2", 7);
        fault(x, 1, "put -1 2", 4);
        fault(x, 1, "cut 1-2", 5);
        fault(x, 1, "cut 1 2 3", 8);
        fault(x, 1, "inc 1 2", 7);
        fault(x, 1, "inc 1-2", 5);
        fault(x, 1, "del 1 2", 6);
        fault(x, 1, "del 1-2", 5);
        fault(x, 1, "del", 3);
        fault(x, 1, "d el 1", 1);
        fault(x, 1, "de 1", 2);
        fault(x, 1, "de", 2);
        fault(x, 1, "det 1", 2);
        fault(x, 1, "dell 1", 3);
        fault(x, 1, "sna;", 3);
        fault(x, 1, "snapp", 4);
        fault(x, 1, "snap1", 4);
        fault(x, 1, "snap 1", 5);
        fault(x, 1, "snap snap", 5);
        fault(x, 1, "snap;", 5);
        fault(x, 1, "snap; ", 6);
        fault(x, 1, "snap;;", 5);
        fault(x, 1, ";snap", 0);
        fault(x, 1, "snap,", 4);
        fault(x, 1, "Snap", 0);
        fault(x, 1, "1", 0);
        fault(x, 1, "x", 0);
        fault(x, 1, "put\u00a01 1", 3);
        String fifteen = "del1;".repeat(15);
        fault(x, 1, fifteen + "del1", NONE);
        fault(x, 1, fifteen + "del1  ", NONE);
        fault(x, 1, fifteen + "del1  ;", 81);
        fault(x, 1, fifteen + "del1;del1", 79);
        fault(x, 1, fifteen + "del1;x", 79);
        fault(x, 1, fifteen, 75);
    }

    // ---- promise 5
    private static void texts() {
        WideMap x = narrow();
        is("5 the later value", Due.map(x, "5:1, 3:7, 5:-2"), 0);
        looks(x, 0, "[3:7 5:-2]");
        is("5 tape is empty", x.count(6), 0);
        is("5 made", x.count(3), 1);
        is("5 an empty one", x.text(0), 1);
        looks(x, 1, "[]");
        Due.tape(x, "1:2,");
        is("5 a fault", x.text(0), NONE);
        is("5 a fault keeps the tape", x.count(6), 4);
        is("5 no such sort", x.text(2), NONE);
        is("5 no such sort", x.text(-1), NONE);
        is("5 no status", x.status(1), 0);
        for (int i = 2; i < 16; i++) {
            is("5 number", Due.map(x, "1:" + i), i);
        }
        Due.tape(x, "1:2");
        is("5 no room", x.text(0), NONE);
        is("5 no room", x.status(4), 1);
        is("5 no room keeps the tape", x.count(6), 3);
        is("5 nothing made", x.count(3), 16);
        x.drop(3);
        is("5 no number again", x.text(0), 16);
        is("5 find", x.find(16, 1), 2);
        is("5 from none", x.about(16, 5), NONE);
        is("5 from none", x.about(16, 6), NONE);
        Due.map(narrow(), "");
        WideMap y = new WideMap();
        is("5 sixty entries", Due.map(y, "1:1,".repeat(59) + "2:2"), 0);
        looks(y, 0, "[1:1 2:2]");
    }

    private static void programTexts() {
        WideMap x = new WideMap();
        for (int i = 0; i < 4; i++) {
            is("5 program", Due.program(x, "snap;del " + i), i);
            is("5 tape is empty", x.count(6), 0);
        }
        Due.tape(x, "snap");
        is("5 a fifth", x.text(1), NONE);
        is("5 keeps the tape", x.count(6), 4);
        is("5 four", x.count(5), 4);
        for (int what = 0; what < 5; what++) {
            is("5 no status", x.status(what), 0);
        }
        for (int i = 0; i < 4; i++) {
            is("5 each its own", x.step(i, 1, 1), i);
        }
        WideMap y = new WideMap();
        Due.tape(y, "snap;del 1;x");
        is("5 read before", y.fault(1), 11);
        Due.tape(y, "put 2 3");
        is("5 read twice", y.fault(1), NONE);
        is("5 read thrice", y.text(1), 0);
        is("5 these steps alone", y.step(0, 0, 0), 0);
        is("5 these steps alone", y.step(0, 1, 0), HIDDEN);
        Due.tape(x, "del 7;x");
        is("5 a fault spoils none", x.text(1) + x.fault(1), 5);
        is("5 steps as they were", x.step(3, 1, 1), 3);
    }

    // ---- promise 6
    private static void widths() {
        WideMap x = new WideMap();
        String[] shown = {"(([1:1 2:2][3:3 4:4])([5:5 6:6][7:7 8:8]))", "([1:1 2:2 3:3][4:4 5:5 6:6][7:7 8:8])",
            "([1:1 2:2 3:3][4:4 5:5 6:6 7:7 8:8])", "([1:1 2:2 3:3 4:4][5:5 6:6 7:7 8:8])"};
        for (int width = 3; width <= 6; width++) {
            is("6 width", x.wide(width), width);
            Due.map(x, EIGHT);
            looks(x, 0, shown[width - 3]);
        }
        int program = Due.program(x, "snap");
        x.build(1, 0);
        x.image();
        x.show(0);
        Due.tape(x, "1:1");
        is("6 too narrow", x.wide(2), NONE);
        is("6 too wide", x.wide(7), NONE);
        is("6 least", x.wide(LEAST), NONE);
        is("6 status", x.status(1), 3);
        is("6 as it was", x.count(0), 6);
        is("6 as it was", x.count(1), 1);
        is("6 as it was", x.count(7), 2);
        is("6 the same opens too", x.wide(6), 6);
        is("6 no maps", x.count(1), 0);
        is("6 no numbers", x.count(2), 0);
        is("6 none made", x.count(3), 0);
        is("6 none live", x.count(4), 0);
        is("6 stale", x.count(7), 0);
        is("6 no image", x.back(), NONE);
        x.end(0);
        x.text(0);
        x.build(0, 0);
        is("6 a builder", x.count(7), 1);
        is("6 again", x.wide(6), 6);
        is("6 all are stale", x.count(7), 0);
        Due.tape(x, "1:1");
        is("6 program stays", x.step(program, 0, 0), 5);
        is("6 tape stays", x.count(6), 3);
        is("6 status stays", x.status(1), 3);
        is("6 shown stays", x.shown(0), '(');
        is("6 nothing for an image", x.image(), 0);
        is("6 nothing to come back", x.back(), 0);
        is("6 from the first again", x.text(0), 0);
        is("6 no line", x.comesFrom(0, 0), 1);
        is("6 not given", x.comesFrom(0, 1), NONE);
    }

    private static long keyOf(WideMap x, int map, int i) {
        try {
            return x.key(map, i);
        } catch (NoSuchElementException e) {
            return LEAST;
        }
    }

    // ---- promises 7 to 10
    private static void lookups() {
        WideMap x = narrow();
        Due.map(x, "10:1,20:2,30:3,40:4,50:5,60:-6,70:7,999:8,0:9");
        is("7 find", x.find(0, 60), -6);
        is("7 find", x.find(0, 0), 9);
        is("7 find", x.find(0, 999), 8);
        is("7 not there", x.find(0, 61), HIDDEN);
        is("7 no key", x.find(0, -1), HIDDEN);
        is("7 no key", x.find(0, 1000), HIDDEN);
        is("7 no map", x.find(1, 10), HIDDEN);
        is("7 no map", x.find(-1, 10), HIDDEN);
        int[] keys = {0, 10, 20, 30, 40, 50, 60, 70, 999};
        for (int i = 0; i < keys.length; i++) {
            is("8 key " + i, keyOf(x, 0, i), keys[i]);
            is("10 below", x.below(0, keys[i]), i);
            is("10 below", x.below(0, keys[i] + 1), i + 1);
        }
        is("8 none", keyOf(x, 0, 9), LEAST);
        is("8 none", keyOf(x, 0, -1), LEAST);
        is("8 no map", keyOf(x, 1, 0), LEAST);
        is("10 far below", x.below(0, LEAST), 0);
        is("10 far above", x.below(0, MOST), 9);
        is("10 no map", x.below(1, 5), NONE);
        int[] about = {9, 3, 7, 4, 33, NONE, NONE, HIDDEN};
        looks(x, 0, "(([0:9 10:1 20:2][30:3 40:4])([50:5 60:-6][70:7 999:8]))");
        for (int what = 0; what < about.length; what++) {
            is("9 about " + what, x.about(0, what), about[what]);
        }
        is("9 no such", x.about(0, -1), HIDDEN);
        WideMap y = new WideMap();
        Due.map(y, "5:5");
        is("9 one leaf", y.about(0, 3), 1);
        is("9 one leaf", y.about(0, 2), 1);
        is("9 one leaf", y.about(0, 1), 1);
        is("9 no map", x.about(1, 0), HIDDEN);
        x.having(0, 10, 5);
        x.merge(1, 0, 0);
        is("9 from one", x.about(1, 5), 0);
        is("9 from one", x.about(1, 6), NONE);
        is("9 from two", x.about(2, 5), 1);
        is("9 from two", x.about(2, 6), 0);
        x.drop(0);
        is("7 dropped", x.find(0, 10), HIDDEN);
        is("8 dropped", keyOf(x, 0, 0), LEAST);
        is("9 dropped", x.about(0, 0), HIDDEN);
        is("10 dropped", x.below(0, 10), NONE);
        is("9 from one not held", x.about(1, 5), 0);
        for (int what = 0; what < 5; what++) {
            is("7 to 10 no status", x.status(what), 0);
        }
    }

    // ---- promises 11, 12
    private static void nearAndTotal() {
        WideMap x = narrow();
        Due.map(x, "10:1,20:2,30:3,40:-40,50:5");
        int[] keys = {LEAST, -1, 0, 10, 15, 20, 50, 51, 999, 1000, MOST};
        int[][] near = {
            {NONE, 10, NONE, 10}, {NONE, 10, NONE, 10}, {NONE, 10, NONE, 10}, {10, 10, NONE, 20}, {10, 20, 10, 20},
            {20, 20, 10, 30}, {50, 50, 40, NONE}, {50, NONE, 50, NONE}, {50, NONE, 50, NONE}, {50, NONE, 50, NONE},
            {50, NONE, 50, NONE}};
        for (int i = 0; i < keys.length; i++) {
            for (int what = 0; what < 4; what++) {
                is("11 near " + keys[i] + " " + what, x.near(0, keys[i], what), near[i][what]);
            }
        }
        is("11 no such what", x.near(0, 20, 4), NONE);
        is("11 no such what", x.near(0, 20, -1), NONE);
        is("11 no map", x.near(1, 20, 0), NONE);
        is("12 all", x.total(0, 0, 999), -29);
        is("12 all", x.total(0, LEAST, MOST), -29);
        is("12 some", x.total(0, 20, 40), -35);
        is("12 one", x.total(0, 30, 30), 3);
        is("12 between", x.total(0, 31, 39), 0);
        is("12 from above to", x.total(0, 40, 20), 0);
        is("12 no map", x.total(1, 0, 999), HIDDEN);
        Due.map(x, "");
        for (int what = 0; what < 4; what++) {
            is("11 empty", x.near(1, 5, what), NONE);
            is("11 empty", x.near(1, -1, what), NONE);
        }
        is("12 empty", x.total(1, 0, 999), 0);
        is("11 one after another", x.near(0, 11, 0), 10);
        is("12 one after another", x.near(1, 11, 0) + x.total(0, 10, 20), NONE + 3);
        is("10 one after another", x.below(1, 99), 0);
        is("10 one after another", x.below(0, 99), 5);
        is("12 one after another", x.find(1, 10) + x.total(1, 10, 20), HIDDEN);
    }

    // ---- promise 13
    private static void nodes() {
        WideMap x = narrow();
        Due.map(x, EIGHT);
        int[][] nodes = {{0, 2, 1, 0, 1, 8}, {0, 2, 1, 1, 1, 4}, {1, 2, 1, 2, 1, 2}, {1, 2, 3, 2, 1, 2},
            {0, 2, 5, 1, 1, 4}, {1, 2, 5, 2, 1, 2}, {1, 2, 7, 2, 1, 2}};
        for (int i = 0; i < nodes.length; i++) {
            for (int what = 0; what < 6; what++) {
                is("13 node " + i + " " + what, x.node(0, i, what), nodes[i][what]);
            }
            is("13 no such what", x.node(0, i, 6), HIDDEN);
            is("13 no such what", x.node(0, i, -1), HIDDEN);
        }
        is("13 no such node", x.node(0, 7, 0), HIDDEN);
        is("13 no such node", x.node(0, -1, 0), HIDDEN);
        is("13 no map", x.node(1, 0, 0), HIDDEN);
        x.having(0, 8, 9);
        x.having(0, 9, 9);
        int[] maps = {1, 3, 3, 3, 1, 3, 1};
        for (int i = 0; i < maps.length; i++) {
            is("13 in how many maps, " + i, x.node(0, i, 4), maps[i]);
        }
        x.build(0, 0);
        is("13 builders are no maps", x.node(0, 0, 4), 1);
        x.drop(2);
        is("13 dropped ones are none", x.node(0, 1, 4), 2);
        Due.map(x, "");
        int[] empty = {1, 0, NONE, 0, 1, 0};
        for (int what = 0; what < 6; what++) {
            is("13 empty " + what, x.node(3, 0, what), empty[what]);
        }
        is("13 empty", x.node(3, 1, 0), HIDDEN);
    }

    // ---- terms 2: PUT, TAKE OUT
    private static void growing() {
        WideMap x = narrow();
        x.text(0);
        x.build(0, 0);
        int[] made = {1, 0, 0, 2, 0, 1, 0, 3, 0, 1};
        String[] shown = {"[1:0]", "[1:0 2:0]", "[1:0 2:0 3:0]", "([1:0 2:0][3:0 4:0])", "([1:0 2:0][3:0 4:0 5:0])",
            "([1:0 2:0][3:0 4:0][5:0 6:0])", "([1:0 2:0][3:0 4:0][5:0 6:0 7:0])",
            "(([1:0 2:0][3:0 4:0])([5:0 6:0][7:0 8:0]))", "(([1:0 2:0][3:0 4:0])([5:0 6:0][7:0 8:0 9:0]))",
            "(([1:0 2:0][3:0 4:0])([5:0 6:0][7:0 8:0][9:0 10:0]))"};
        for (int i = 0; i < made.length; i++) {
            is("22 made by key " + (i + 1), x.lay(0, i + 1, 0), made[i]);
            Due.map(x, "");
            WideMap y = narrow();
            Due.map(y, Due.rising(1, i + 1, 0));
            looks(y, 0, shown[i]);
        }
        is("22 all are its own", x.builder(0, 2), x.builder(0, 1));
        Due.map(x, "10:0,20:0,30:0,40:0");
        int map = x.count(2) - 1;
        looks(x, x.having(map, 5, 0), "([5:0 10:0 20:0][30:0 40:0])");
        looks(x, x.having(map, 29, 0), "([10:0 20:0 29:0][30:0 40:0])");
        looks(x, x.having(map + 1, 15, 0), "([5:0 10:0][15:0 20:0][30:0 40:0])");
    }

    private static void shrinking() {
        WideMap x = narrow();
        Due.map(x, EIGHT);
        int last = without(x, 0, 8, 5, "([1:1 2:2][3:3 4:4][5:5 6:6 7:7])");
        without(x, 0, 1, 3, "([2:2 3:3 4:4][5:5 6:6][7:7 8:8])");
        int third = without(x, 0, 3, 4, "([1:1 2:2 4:4][5:5 6:6][7:7 8:8])");
        // one ahead gives, one behind gives, the one ahead is asked first
        without(x, third, 5, 3, "([1:1 2:2][4:4 6:6][7:7 8:8])");
        int less = without(x, last, 3, 3, "([1:1 2:2][4:4 5:5][6:6 7:7])");
        int nine = x.having(third, 9, 9);
        without(x, nine, 6, 3, "([1:1 2:2][4:4 5:5][7:7 8:8 9:9])");
        int made = x.count(3);
        looks(x, x.slice(less, 4, 6), "[4:4 5:5 6:6]");
        is("23 down to a leaf", x.count(3) - made, 3);
        made = x.count(3);
        looks(x, x.slice(less, 999, 999), "[]");
        is("23 down to nothing", x.count(3) - made, 2);
        WideMap y = narrow();
        int ten = Due.map(y, EIGHT + ",9:9,10:10");
        looks(y, ten, "(([1:1 2:2][3:3 4:4])([5:5 6:6][7:7 8:8][9:9 10:10]))");
        without(y, ten, 1, 4, "(([2:2 3:3 4:4][5:5 6:6])([7:7 8:8][9:9 10:10]))");
        int wide = Due.map(y, "11:0,12:0,13:0,14:0,15:0,16:0,17:0,18:0,1:0,2:0");
        looks(y, wide, "(([1:0 2:0][11:0 12:0][13:0 14:0])([15:0 16:0][17:0 18:0]))");
        without(y, wide, 18, 5, "(([1:0 2:0][11:0 12:0])([13:0 14:0][15:0 16:0 17:0]))");
    }

    /** Without a key: how many nodes that makes, what is shown then; the number. */
    private static int without(WideMap x, int map, int key, int made, String shown) {
        int before = x.count(3);
        int without = x.lacking(map, key);
        is("23 made without " + key, x.count(3) - before, made);
        looks(x, without, shown);
        return without;
    }

    // ---- promise 14
    private static void having() {
        WideMap x = narrow();
        Due.map(x, EIGHT);
        int made = x.count(3);
        is("14 the same value", x.having(0, 3, 3), 1);
        is("14 no node", x.count(3), made);
        is("14 the same root", x.shared(0, 1), 7);
        is("14 another value", x.having(0, 3, -3), 2);
        is("14 a node for each level", x.count(3), made + 3);
        looks(x, 2, "(([1:1 2:2][3:-3 4:4])([5:5 6:6][7:7 8:8]))");
        looks(x, 0, "(([1:1 2:2][3:3 4:4])([5:5 6:6][7:7 8:8]))");
        is("14 comes from", x.about(2, 5), 0);
        is("14 edges", x.having(0, 0, 999), 3);
        is("14 edges", x.having(0, 999, -999), 4);
        is("14 no map", x.having(5, 1, 1), NONE);
        is("14 no map is first", x.having(5, -1, 1), NONE);
        is("14 no map", x.status(0), 2);
        is("14 bounds", x.having(0, -1, 0), NONE);
        is("14 bounds", x.having(0, 1000, 0), NONE);
        is("14 bounds", x.having(0, 1, 1000), NONE);
        is("14 bounds", x.having(0, 1, -1000), NONE);
        is("14 bounds", x.status(1), 4);
        is("14 no number", x.count(2), 5);
        int full = Due.full(x, 7);
        made = x.count(3);
        is("14 61 keys", x.having(full, 60, 0), NONE);
        is("14 61 keys", x.status(3), 1);
        is("14 nothing made", x.count(3), made);
        while (x.count(1) < 16) {
            x.having(0, 1, 1);
        }
        is("14 more than 60 before no room", x.having(full, 60, 0), NONE);
        is("14 more than 60 before no room", x.status(3), 2);
        is("14 no room", x.having(full, 59, 0), NONE);
        is("14 no room, though nothing is to do", x.having(full, 59, 7), NONE);
        is("14 no room", x.status(4), 2);
        x.drop(0);
        int next = x.count(2);
        is("14 a key of 60", x.having(full, 59, 8), next);
        is("14 a key of 60", x.about(next, 0), 60);
    }

    // ---- promise 15
    private static void lacking() {
        WideMap x = narrow();
        Due.map(x, "1:1,2:2");
        is("15 out", x.lacking(0, 1), 1);
        looks(x, 1, "[2:2]");
        looks(x, 0, "[1:1 2:2]");
        is("15 made", x.count(3), 2);
        is("15 not there", x.lacking(0, 3), 2);
        is("15 not there makes none", x.count(3), 2);
        is("15 not there shares", x.shared(0, 2), 1);
        is("15 the last one", x.lacking(1, 2), 3);
        looks(x, 3, "[]");
        is("15 comes from", x.about(3, 5), 1);
        is("15 comes from one", x.about(3, 6), NONE);
        is("15 no map", x.lacking(4, 1000), NONE);
        is("15 no map", x.status(0), 1);
        is("15 bounds", x.lacking(0, 1000), NONE);
        is("15 bounds", x.lacking(0, -1), NONE);
        is("15 bounds", x.status(1), 2);
        while (x.count(1) < 16) {
            x.lacking(0, 5);
        }
        is("15 no room", x.lacking(0, 5), NONE);
        is("15 no room", x.lacking(0, 1), NONE);
        is("15 bounds before no room", x.lacking(0, 1000), NONE);
        is("15 no room", x.status(4), 2);
        is("15 nothing made", x.count(3), 3);
    }

    // ---- promise 16
    private static void merges() {
        WideMap x = narrow();
        Due.map(x, "1:5,2:900,3:-900,4:1");
        Due.map(x, "2:800,3:-950,4:1,9:9");
        looks(x, x.merge(0, 1, 0), "([1:5 2:900][3:-900 4:1 9:9])");
        looks(x, x.merge(0, 1, 1), "([1:5 2:800][3:-950 4:1 9:9])");
        looks(x, x.merge(0, 1, 2), "([1:5 2:900][3:-900 4:1 9:9])");
        looks(x, x.merge(0, 1, 3), "([1:5 2:999][3:-999 4:2 9:9])");
        looks(x, x.merge(1, 0, 0), "([1:5 2:800 3:-950][4:1 9:9])");
        is("16 rule 0 makes two", x.shared(0, 2), 1);
        is("16 rule 1 makes all", x.shared(0, 3), 0);
        is("16 from two", x.about(6, 5), 1);
        is("16 from two", x.about(6, 6), 0);
        int made = x.count(3);
        is("16 with itself, added", x.merge(0, 0, 3), 7);
        is("16 shared leaves are left out", x.alike(0, 7, 0), 1);
        is("16 none made", x.count(3), made);
        is("16 from itself twice", x.about(7, 6), 0);
        int near = x.having(0, 4, 2);
        made = x.count(3);
        looks(x, x.merge(0, near, 3), "([1:5 2:900][3:-999 4:3])");
        is("16 only the leaf not shared", x.count(3), made + 2);
        int same = Due.map(x, "1:5,2:900,3:-900,4:1");
        looks(x, x.merge(0, same, 3), "([1:10 2:999][3:-999 4:2])");
    }

    private static void mergeRefused() {
        WideMap x = new WideMap();
        int full = Due.full(x, 1);
        int one = Due.map(x, "60:1");
        int in = Due.map(x, "59:5");
        int made = x.count(3);
        is("16 no map", x.merge(full, 9, 9), NONE);
        is("16 no map", x.merge(9, full, 0), NONE);
        is("16 no map", x.status(0), 2);
        is("16 no rule", x.merge(full, one, 4), NONE);
        is("16 no rule", x.merge(full, one, -1), NONE);
        is("16 no rule", x.status(1), 2);
        is("16 too many", x.merge(full, one, 0), NONE);
        is("16 too many", x.merge(one, full, 3), NONE);
        is("16 too many", x.status(3), 2);
        is("16 none made", x.count(3), made);
        int merged = x.merge(in, full, 0);
        is("16 just 60", x.about(merged, 0), 60);
        is("16 the first's", x.find(merged, 59), 5);
        while (x.count(1) < 16) {
            x.having(one, 1, 1);
        }
        made = x.count(3);
        is("16 no room", x.merge(full, in, 0), NONE);
        is("16 no room", x.status(4), 1);
        is("16 too many before no room", x.merge(full, one, 0), NONE);
        is("16 too many before no room", x.status(3), 3);
        is("16 no rule before too many", x.merge(full, one, 5), NONE);
        is("16 no rule before too many", x.status(1), 3);
        is("16 none made", x.count(3), made);
    }

    // ---- promises 17, 18
    private static void threes() {
        WideMap x = new WideMap();
        int base = Due.map(x, "1:1,2:2,3:3,4:4,5:5,6:6");
        int one = Due.map(x, "1:1,2:20,3:3,4:40,6:60,7:7,8:8");
        int other = Due.map(x, "1:10,2:2,4:41,5:5,7:7,8:9,9:9");
        // 1 changed by the other, 2 by the one, 3 taken by the other, 4 by both, 5 taken by the one, 6 changed by the
        // one and taken by the other, 7 put by both alike, 8 by both, 9 put by the other
        is("18 conflicts", x.conflicts(base, one, other), 3);
        looks(x, x.three(base, one, other, 0), "([1:10 2:20][4:40 6:60 7:7][8:8 9:9])");
        looks(x, x.three(base, one, other, 1), "([1:10 2:20][4:41 7:7 8:9 9:9])");
        looks(x, x.three(base, one, other, 2), "([1:10 2:20][4:4 6:6 7:7 9:9])");
        is("17 from the one", x.about(5, 5), one);
        is("17 from the other", x.about(5, 6), other);
        is("17 not from the base", x.comesFrom(5, base), 0);
        is("18 the other way", x.conflicts(base, other, one), 3);
        looks(x, x.three(base, other, one, 0), "([1:10 2:20 4:41][7:7 8:9 9:9])");
        is("18 none", x.conflicts(base, base, other), 0);
        int made = x.count(3);
        int same = x.three(one, one, other, 0);
        is("17 the base itself", x.alike(same, other, 0), 1);
        is("17 the other is the base", x.shared(x.three(other, one, other, 1), one), x.about(one, 2));
        is("17 both alike", x.shared(x.three(base, one, one, 1), one), x.about(one, 2));
        is("18 no map", x.conflicts(50, 0, 0), NONE);
        is("18 no map", x.conflicts(0, 50, 0), NONE);
        is("18 no map", x.conflicts(0, 0, -1), NONE);
        is("18 no status", x.status(0), 0);
        is("17 made by changes alone", x.count(3) > made, true);
    }

    private static void threeRefused() {
        WideMap x = new WideMap();
        int empty = Due.map(x, "");
        int full = Due.full(x, 1);
        int one = Due.map(x, "60:1");
        int two = Due.map(x, "60:1,61:1");
        int made = x.count(3);
        is("17 no map", x.three(9, one, full, 9), NONE);
        is("17 no map", x.three(empty, 9, full, 0), NONE);
        is("17 no map", x.three(empty, one, 9, 0), NONE);
        is("17 no map", x.status(0), 3);
        is("17 no rule", x.three(empty, one, full, 3), NONE);
        is("17 no rule", x.three(empty, one, full, -1), NONE);
        is("17 no rule", x.status(1), 2);
        is("17 too many", x.three(empty, one, full, 0), NONE);
        is("17 too many", x.status(3), 1);
        is("17 nothing made", x.count(3), made);
        // 60 keys are put (0 .. 59), then 60 is taken out: 61 keys on the way, 60 at the end
        int swapped = x.three(one, one, full, 0);
        is("17 by what comes of it at the end", x.alike(swapped, full, 0), 1);
        int less = x.three(full, full, two, 0);
        looks(x, less, "[60:1 61:1]");
        is("18 no conflict", x.conflicts(one, two, full), 0);
        is("17 61 at the end", x.three(one, two, full, 0), NONE);
        is("17 61 at the end", x.status(3), 2);
        while (x.count(1) < 16) {
            x.having(one, 1, 1);
        }
        is("17 no room", x.three(empty, one, two, 0), NONE);
        is("17 no room", x.status(4), 1);
        is("17 too many before no room", x.three(empty, one, full, 0), NONE);
        is("17 too many before no room", x.status(3), 3);
    }

    // ---- promise 19
    private static void slices() {
        WideMap x = narrow();
        Due.map(x, EIGHT);
        int made = x.count(3);
        looks(x, x.slice(0, 1, 8), "(([1:1 2:2][3:3 4:4])([5:5 6:6][7:7 8:8]))");
        looks(x, x.slice(0, 0, 999), "(([1:1 2:2][3:3 4:4])([5:5 6:6][7:7 8:8]))");
        is("19 nothing made", x.count(3), made);
        is("19 shared", x.shared(0, 1), 7);
        looks(x, x.slice(0, 3, 6), "([3:3 4:4][5:5 6:6])");
        looks(x, x.slice(0, 4, 4), "[4:4]");
        looks(x, x.slice(0, 9, 9), "[]");
        is("19 asked of another", x.below(5, 999), 0);
        looks(x, x.slice(0, 7, 8), "[7:7 8:8]");
        is("19 comes from", x.about(5, 5), 0);
        is("19 comes from one", x.about(5, 6), NONE);
        is("19 no map", x.slice(9, 5, 4), NONE);
        is("19 no map", x.status(0), 1);
        is("19 above", x.slice(0, 5, 4), NONE);
        is("19 bounds", x.slice(0, -1, 4), NONE);
        is("19 bounds", x.slice(0, 1, 1000), NONE);
        is("19 bounds", x.status(1), 3);
        while (x.count(1) < 16) {
            x.having(0, 1, 1);
        }
        is("19 no room", x.slice(0, 1, 2), NONE);
        is("19 no room", x.status(4), 1);
        is("19 bounds before no room", x.slice(0, 5, 4), NONE);
        is("19 bounds before no room", x.status(1), 4);
    }

    // ---- promise 20
    private static void drops() {
        WideMap x = new WideMap();
        Due.map(x, "1:1");
        Due.map(x, "2:2");
        x.build(0, 0);
        is("20 drop", x.drop(0), 1);
        is("20 twice", x.drop(0), NONE);
        is("20 not given", x.drop(2), NONE);
        is("20 below", x.drop(-1), NONE);
        is("20 status", x.status(0), 3);
        is("20 the builder goes on", x.peek(0, 1), 1);
        is("20 and its map's number", x.builder(0, 3), 0);
        is("20 live by the builder", x.count(4), 2);
        is("20 numbers go on", Due.map(x, ""), 2);
        is("20 held", x.count(1), 2);
    }

    // ---- promises 21, 30
    private static void builders() {
        WideMap x = narrow();
        Due.map(x, EIGHT);
        for (int builder = 0; builder < 4; builder++) {
            is("30 not opened", x.builder(builder, 0), HIDDEN);
            is("21 nodes", x.build(builder, 0), 7);
            is("30 keys", x.builder(builder, 0), 8);
            is("30 nodes", x.builder(builder, 1), 7);
            is("30 its own", x.builder(builder, 2), 0);
            is("30 comes from", x.builder(builder, 3), 0);
            is("30 no such what", x.builder(builder, 4), HIDDEN);
            is("30 no such what", x.builder(builder, -1), HIDDEN);
        }
        is("21 made none", x.count(3), 7);
        is("21 no map", x.build(0, 1), NONE);
        is("21 no builder", x.build(4, 0), NONE);
        is("21 no builder", x.build(-1, 0), NONE);
        is("21 status", x.status(0), 3);
        is("30 no such one", x.builder(4, 0), HIDDEN);
        is("30 no such one", x.builder(-1, 0), HIDDEN);
        x.lay(0, 9, 9);
        x.lay(1, 1, 5);
        is("30 own of a path", x.builder(0, 2), 3);
        is("30 keys", x.builder(0, 0), 9);
        is("30 each its own", x.builder(1, 0), 8);
        is("30 the map is as it was", x.about(0, 0), 8);
        Due.map(x, "5:5");
        is("21 opened again", x.build(0, 1), 1);
        is("30 opened again", x.builder(0, 0), 1);
        is("30 opened again", x.builder(0, 2), 0);
        is("30 opened again", x.builder(0, 3), 1);
        is("7 find", x.find(1, 5), 5);
        is("30 no status", x.status(2), 0);
    }

    private static void refusesBuilder(WideMap x, String which, int builder, int want) {
        int[] before = {x.status(0), x.status(2)};
        int made = x.count(3);
        is("22 " + which, x.lay(builder, 1, 1), NONE);
        is("23 " + which, x.take(builder, 1), NONE);
        is("24 " + which, x.add(builder, 1, 1), NONE);
        is("25 " + which, x.cut(builder, 1, 2), NONE);
        is("26 " + which, x.inc(builder, 1, 2, 3), NONE);
        is("27 " + which, x.snap(builder), NONE);
        is("28 " + which, x.freeze(builder), NONE);
        is("31 " + which, x.draws(builder, 1, 1), NONE);
        is("29 " + which, x.peek(builder, 1), HIDDEN);
        is("30 " + which, x.builder(builder, 0), HIDDEN);
        is(which + " status 0", x.status(0) - before[0], want == 0 ? 8 : 0);
        is(which + " status 2", x.status(2) - before[1], want == 2 ? 8 : 0);
        is(which + " made", x.count(3), made);
    }

    // ---- promise 22
    private static void laying() {
        WideMap x = narrow();
        Due.map(x, "1:1,3:3,5:5,7:7");
        refusesBuilder(x, "not opened", 0, 2);
        refusesBuilder(x, "no such", 4, 0);
        refusesBuilder(x, "no such", -1, 0);
        x.build(0, 0);
        is("22 a new one", x.lay(0, 2, 2), 2);
        is("22 in place", x.lay(0, 2, -999), 0);
        is("22 the same", x.lay(0, 2, -999), 0);
        is("22 parted", x.lay(0, 4, 999), 1);
        is("29 peek", x.peek(0, 2), -999);
        is("22 map as it was", x.find(0, 2), HIDDEN);
        is("22 bounds", x.lay(0, 1000, 0), NONE);
        is("22 bounds", x.lay(0, -1, 0), NONE);
        is("22 bounds", x.lay(0, 1, 1000), NONE);
        is("22 bounds", x.lay(0, 1, -1000), NONE);
        is("22 bounds", x.status(1), 4);
        is("22 no builder before bounds", x.lay(7, 1000, 0), NONE);
        is("22 no builder before bounds", x.status(1), 4);
        is("22 bounds before stale", x.lay(1, 1000, 0), NONE);
        is("22 bounds before stale", x.status(1), 5);
        int full = Due.full(x, 0);
        x.build(1, full);
        is("22 the sixty-first", x.lay(1, 60, 0), NONE);
        is("22 the sixty-first", x.status(3), 1);
        is("22 the same of 60", x.lay(1, 59, 0), 0);
        is("22 another of 60", x.lay(1, 59, 1) > 0, true);
        x.take(1, 0);
        is("22 room again", x.lay(1, 60, 0) >= 0, true);
        is("22 sixty", x.builder(1, 0), 60);
    }

    // ---- promise 23
    private static void taking() {
        WideMap x = narrow();
        Due.map(x, EIGHT);
        x.build(0, 0);
        is("23 not there", x.take(0, 9), 0);
        is("23 made", x.take(0, 8), 5);
        is("23 in place", x.take(0, 7), 0);
        is("23 all gone", x.take(0, 1) + x.take(0, 2) + x.take(0, 3) + x.take(0, 4) + x.take(0, 5) + x.take(0, 6), 1);
        is("23 empty", x.builder(0, 0), 0);
        is("23 one leaf", x.builder(0, 1), 1);
        looks(x, x.snap(0), "[]");
        is("23 nothing there", x.take(0, 1), 0);
        is("23 bounds", x.take(0, -1), NONE);
        is("23 bounds", x.take(0, 1000), NONE);
        is("23 bounds", x.status(1), 2);
        is("23 map as it was", x.about(0, 0), 8);
    }

    // ---- promise 24
    private static void adding() {
        WideMap x = narrow();
        Due.map(x, "1:900,2:-900,3:3");
        x.build(0, 0);
        is("24 nothing new", x.add(0, 1, 0), 0);
        is("24 held", x.add(0, 1, 100), 1);
        is("24 held", x.peek(0, 1), 999);
        is("24 held already", x.add(0, 1, 999), 0);
        is("24 held below", x.add(0, 2, -999), 0);
        is("24 held below", x.peek(0, 2), -999);
        is("24 added", x.add(0, 3, -5), 0);
        is("24 added", x.peek(0, 3), -2);
        is("24 not there", x.add(0, 4, -7), 2);
        is("24 not there", x.peek(0, 4), -7);
        is("24 nothing put", x.add(0, 5, 0), 0);
        is("24 nothing put", x.peek(0, 5), 0);
        is("24 bounds", x.add(0, 1000, 0), NONE);
        is("24 bounds", x.add(0, 1, 1000), NONE);
        is("24 bounds", x.add(0, 1, -1000), NONE);
        is("24 bounds", x.status(1), 3);
        x.build(1, Due.full(x, 2));
        is("24 the sixty-first", x.add(1, 60, 0), NONE);
        is("24 the sixty-first", x.status(3), 1);
        is("24 one of 60", x.add(1, 59, 3) > 0, true);
        is("24 one of 60", x.peek(1, 59), 5);
    }

    // ---- promise 25
    private static void cutting() {
        WideMap x = narrow();
        Due.map(x, EIGHT);
        x.build(0, 0);
        is("25 none there", x.cut(0, 9, 999), 0);
        is("25 from below", x.cut(0, 2, 4), 3);
        looks(x, x.snap(0), "([1:1 5:5 6:6][7:7 8:8])");
        is("25 one", x.cut(0, 8, 8), 3);
        looks(x, x.snap(0), "([1:1 5:5][6:6 7:7])");
        is("25 all", x.cut(0, 0, 999), 2);
        looks(x, x.snap(0), "[]");
        is("25 above", x.cut(0, 3, 2), NONE);
        is("25 bounds", x.cut(0, -1, 2), NONE);
        is("25 bounds", x.cut(0, 0, 1000), NONE);
        is("25 bounds", x.status(1), 3);
        is("25 bounds before stale", x.cut(1, 3, 2), NONE);
        is("25 bounds before stale", x.status(1), 4);
        is("25 no builder before bounds", x.cut(4, 3, 2), NONE);
        is("25 no builder before bounds", x.status(0), 1);
    }

    // ---- promise 26
    private static void raising() {
        WideMap x = narrow();
        Due.map(x, EIGHT);
        x.build(0, 0);
        is("26 by nothing", x.inc(0, 0, 999, 0), 0);
        is("26 some", x.inc(0, 3, 6, 10), 5);
        is("26 in place", x.inc(0, 3, 6, -1), 0);
        looks(x, x.snap(0), "(([1:1 2:2][3:12 4:13])([5:14 6:15][7:7 8:8]))");
        is("26 all", x.inc(0, 0, 999, 990), 7);
        is("26 held", x.peek(0, 8), 998);
        is("26 held", x.peek(0, 3), 999);
        is("26 held below", x.inc(0, 1, 1, -999) + x.inc(0, 1, 1, -999), 0);
        is("26 held below", x.peek(0, 1), -999);
        is("26 none there", x.inc(0, 9, 20, 5), 0);
        is("26 puts none", x.builder(0, 0), 8);
        is("26 above", x.inc(0, 3, 2, 1), NONE);
        is("26 bounds", x.inc(0, -1, 2, 1), NONE);
        is("26 bounds", x.inc(0, 1, 1000, 1), NONE);
        is("26 bounds", x.inc(0, 1, 2, 1000), NONE);
        is("26 bounds", x.inc(0, 1, 2, -1000), NONE);
        is("26 bounds", x.status(1), 5);
    }

    // ---- promises 27, 28
    private static void snapping() {
        WideMap x = narrow();
        Due.map(x, "1:1,2:2,3:3,4:4");
        x.build(2, 0);
        x.lay(2, 4, 5);
        is("27 number", x.snap(2), 1);
        is("27 comes from", x.about(1, 5), 0);
        is("27 comes from one", x.about(1, 6), NONE);
        is("27 the builder comes from it", x.builder(2, 3), 1);
        is("27 a new token", x.builder(2, 2), 0);
        is("27 nothing changed", x.snap(2), 2);
        is("27 all shared", x.shared(1, 2), 3);
        is("27 copied first", x.lay(2, 4, 6), 2);
        is("27 the map as it was", x.find(2, 4), 5);
        is("27 in place now", x.lay(2, 4, 7), 0);
        is("28 number", x.freeze(2), 3);
        is("28 comes from", x.about(3, 5), 2);
        is("28 holds", x.find(3, 4), 7);
        refusesBuilder(x, "frozen", 2, 2);
        is("28 no more", x.count(7), 0);
        x.build(2, 3);
        while (x.count(1) < 16) {
            x.having(0, 1, 1);
        }
        x.lay(2, 9, 9);
        is("27 no room", x.snap(2), NONE);
        is("28 no room", x.freeze(2), NONE);
        is("27 no room", x.status(4), 2);
        is("28 goes on", x.builder(2, 2), 2);
        is("28 goes on", x.peek(2, 9), 9);
        is("27 stale before no room", x.snap(1), NONE);
        is("27 stale before no room", x.status(4), 2);
        x.drop(0);
        is("28 room", x.freeze(2), 16);
    }

    // ---- promise 29
    private static void peeking() {
        WideMap x = new WideMap();
        Due.map(x, "1:1");
        is("29 not opened", x.peek(0, 1), HIDDEN);
        x.build(0, 0);
        is("29 there", x.peek(0, 1), 1);
        is("29 not there", x.peek(0, 2), HIDDEN);
        is("29 no key", x.peek(0, -1), HIDDEN);
        is("29 no key", x.peek(0, 1000), HIDDEN);
        x.lay(0, 2, 2);
        x.take(0, 1);
        is("29 as it is now", x.peek(0, 2), 2);
        is("29 as it is now", x.peek(0, 1), HIDDEN);
        is("29 no such one", x.peek(4, 1), HIDDEN);
        is("29 no such one", x.peek(-1, 1), HIDDEN);
        x.freeze(0);
        is("29 stale", x.peek(0, 2), HIDDEN);
        is("29 no status", x.status(0) + x.status(1) + x.status(2), 0);
    }

    // ---- promise 31
    private static void drawing() {
        for (long seed : new long[] {0, 1, -1, 123456789, Long.MIN_VALUE, Long.MAX_VALUE}) {
            WideMap x = narrow();
            WideMap y = narrow();
            Due.map(x, "1:1");
            Due.map(y, "1:1");
            x.build(0, 0);
            y.build(0, 0);
            is("31 made", x.draws(0, 30, seed), drawnByHand(y, 30, seed));
            x.freeze(0);
            y.freeze(0);
            due.is("31 shown", Due.shown(x, 1), Due.shown(y, 1));
        }
        WideMap x = new WideMap();
        x.build(0, Due.full(x, 1));
        x.draws(0, 30, 5);
        is("31 what can't be counts not", x.status(3), 0);
        is("31 never too many", x.builder(0, 0) <= 60, true);
        is("31 bounds", x.draws(0, 0, 5), NONE);
        is("31 bounds", x.draws(0, 31, 5), NONE);
        is("31 bounds", x.draws(0, LEAST, 5), NONE);
        is("31 bounds", x.status(1), 3);
        is("31 one", x.draws(0, 1, 5) >= 0, true);
        is("31 bounds before stale", x.draws(1, 0, 5), NONE);
        is("31 bounds before stale", x.status(1), 4);
        // seed 0: 1442695040888963407 >> 33 is 167951807, of 4: 3, a taking out
        WideMap y = new WideMap();
        Due.map(y, "");
        y.build(0, 0);
        is("31 the first draw of seed 0 takes out", y.draws(0, 1, 0), 0);
        is("31 the first draw of seed 0 takes out", y.builder(0, 0), 0);
    }

    private static int drawnByHand(WideMap x, int n, long seed) {
        long s = seed;
        int[] drawn = new int[3];
        int[] of = {4, 100, 19};
        int made = x.count(3);
        for (int i = 0; i < n; i++) {
            for (int j = 0; j < 3; j++) {
                s = s * 6364136223846793005L + 1442695040888963407L;
                drawn[j] = (int) (Long.divideUnsigned(s, 1L << 33) % of[j]);
            }
            if (drawn[0] == 3) {
                x.take(0, drawn[1]);
            } else if (drawn[0] == 2) {
                x.add(0, drawn[1], drawn[2] - 9);
            } else {
                x.lay(0, drawn[1], drawn[2] - 9);
            }
        }
        return x.count(3) - made;
    }

    // ---- promise 32
    private static void stepping() {
        WideMap x = new WideMap();
        Due.program(x, " put 1 -2 ; del 003;add4-5;cut 9 8;inc 10 11 -0;snap");
        int[][] steps = {{0, 1, -2, HIDDEN}, {1, 3, HIDDEN, HIDDEN}, {2, 4, -5, HIDDEN}, {3, 9, 8, HIDDEN},
            {4, 10, 11, 0}, {5, HIDDEN, HIDDEN, HIDDEN}};
        for (int i = 0; i < steps.length; i++) {
            for (int what = 0; what < 4; what++) {
                is("32 step " + i + " " + what, x.step(0, i, what), steps[i][what]);
            }
            is("32 no such what", x.step(0, i, 4), HIDDEN);
            is("32 no such what", x.step(0, i, -1), HIDDEN);
        }
        is("32 no such step", x.step(0, 6, 0), HIDDEN);
        is("32 no such step", x.step(0, -1, 0), HIDDEN);
        is("32 no such program", x.step(1, 0, 0), HIDDEN);
        is("32 no such program", x.step(4, 0, 0), HIDDEN);
        is("32 no such program", x.step(-1, 0, 0), HIDDEN);
        is("32 no status", x.status(0), 0);
    }

    // ---- promise 33
    private static void running() {
        WideMap x = narrow();
        Due.map(x, "1:1,2:2,3:3,4:4,5:5");
        Due.program(x, "put 6 6;del 1;add 2 20;snap;cut 5 4;inc 9 0 7;cut 3 4;inc 2 6 -1;add 8 8;snap;del 99");
        x.build(0, 0);
        is("33 all", x.run(0, 0), 11);
        looks(x, 1, "([2:22 3:3 4:4][5:5 6:6])");
        looks(x, 2, "([2:21 5:4][6:5 8:8])");
        is("33 snaps come from", x.about(1, 5), 0);
        is("33 snaps come from", x.about(2, 5), 1);
        is("33 the builder comes from", x.builder(0, 3), 2);
        is("33 no program", x.run(1, 0), NONE);
        is("33 no program", x.run(-1, 0), NONE);
        is("33 no builder", x.run(0, 4), NONE);
        is("33 no builder", x.run(0, -1), NONE);
        is("33 no such", x.status(0), 4);
        is("33 stale", x.run(0, 1), NONE);
        is("33 stale", x.status(2), 1);
        is("33 no such before stale", x.run(3, 1), NONE);
        is("33 no such before stale", x.status(0), 5);
        Due.program(x, "put 59 1;put 60 1;put 1 1");
        x.build(1, Due.full(x, 0));
        is("33 up to the sixty-first", x.run(1, 1), 1);
        is("33 the first was done", x.peek(1, 59), 1);
        is("33 the third was not", x.peek(1, 1), 0);
        Due.program(x, "add 0 1;add 60 1;add 1 1");
        is("33 up to the sixty-first", x.run(2, 1), 1);
        Due.program(x, "put 7 7;snap;put 7 8;snap;put 7 9");
        while (x.count(1) < 15) {
            x.having(0, 1, 1);
        }
        x.build(2, 0);
        is("33 a snap without room", x.run(3, 2), 3);
        is("33 up to the snap", x.peek(2, 7), 8);
        is("33 sixteen", x.count(1), 16);
        is("33 is no refusal", x.status(3) + x.status(4), 0);
    }

    // ---- promises 34, 35
    private static void sharing() {
        WideMap x = narrow();
        Due.map(x, EIGHT);
        Due.map(x, EIGHT);
        x.having(0, 8, 0);
        x.lacking(0, 8);
        int[][] pairs = {{0, 0, 7, 0}, {0, 1, 0, 14}, {0, 2, 4, 6}, {0, 3, 2, 7}, {2, 3, 2, 7}, {2, 0, 4, 6}};
        for (int[] pair : pairs) {
            is("34 shared " + pair[0] + " " + pair[1], x.shared(pair[0], pair[1]), pair[2]);
            is("35 looked " + pair[0] + " " + pair[1], x.looked(pair[0], pair[1]), pair[3]);
        }
        is("34 no map", x.shared(0, 4), NONE);
        is("34 no map", x.shared(4, 0), NONE);
        is("35 no map", x.looked(0, 4), NONE);
        is("35 no map", x.looked(-1, 0), NONE);
        is("34 no status", x.status(0), 0);
    }

    // ---- promise 36
    private static void differing() {
        WideMap x = narrow();
        Due.map(x, "1:1,2:2,3:3,5:5");
        Due.map(x, "2:2,3:-3,4:0,5:5,900:9");
        int[][] all = {{1, 1, HIDDEN}, {3, 3, -3}, {4, HIDDEN, 0}, {900, HIDDEN, 9}};
        is("36 how many", x.difference(0, 1, NONE, 0), 4);
        is("36 how many", x.difference(0, 1, NONE, 2), 4);
        for (int i = 0; i < 4; i++) {
            for (int what = 0; what < 3; what++) {
                is("36 " + i + " " + what, x.difference(0, 1, i, what), all[i][what]);
                is("36 back " + i + " " + what, x.difference(1, 0, i, what), all[i][what == 0 ? 0 : 3 - what]);
            }
            is("36 no such what", x.difference(0, 1, i, 3), HIDDEN);
            is("36 no such what", x.difference(0, 1, i, -1), HIDDEN);
        }
        is("36 no such", x.difference(0, 1, 4, 0), HIDDEN);
        is("36 no such", x.difference(0, 1, -2, 0), HIDDEN);
        is("36 none", x.difference(0, 0, NONE, 0), 0);
        is("36 no map", x.difference(0, 2, NONE, 0), HIDDEN);
        is("36 no map", x.difference(2, 0, 0, 0), HIDDEN);
    }

    // ---- promise 37
    private static void alike() {
        WideMap x = narrow();
        Due.map(x, "1:1,2:2,3:3,4:4,5:5");
        Due.map(x, "5:5,4:4,3:3,2:2,1:1");
        Due.map(x, "1:1,2:2,3:3,4:4,5:5");
        Due.map(x, "1:1,2:2,3:3,4:4,5:6");
        looks(x, 0, "([1:1 2:2][3:3 4:4 5:5])");
        looks(x, 1, "([1:1 2:2 3:3][4:4 5:5])");
        is("37 hold the same", x.alike(0, 1, 0), 1);
        is("37 other nodes", x.alike(0, 1, 1), 0);
        is("37 nodes alike, not shared", x.alike(0, 2, 1), 1);
        is("37 not shared", x.shared(0, 2), 0);
        is("37 another value", x.alike(0, 3, 0), 0);
        is("37 another value", x.alike(0, 3, 1), 0);
        is("37 itself", x.alike(0, 0, 1), 1);
        Due.map(x, "1:1,2:2,3:3,4:4,6:5");
        Due.map(x, "1:1,2:2,3:3,4:4");
        is("37 another key", x.alike(0, 4, 0), 0);
        is("37 one fewer", x.alike(0, 5, 0), 0);
        is("37 one more", x.alike(5, 0, 0), 0);
        is("37 one more", x.alike(5, 0, 1), 0);
        int first = Due.map(x, "1:2,2:2,3:3,4:4,5:5");
        is("37 another first value", x.alike(0, first, 0) + x.alike(0, first, 1), 0);
        x.drop(first);
        first = Due.map(x, "0:1,2:2,3:3,4:4,5:5");
        is("37 another first key", x.alike(0, first, 0) + x.alike(0, first, 1), 0);
        x.drop(first);
        is("37 no such what", x.alike(0, 1, 2), NONE);
        is("37 no such what", x.alike(0, 1, -1), NONE);
        is("37 no map", x.alike(0, 9, 0), NONE);
        is("37 no map", x.alike(9, 0, 1), NONE);
        looks(x, 1, "([1:1 2:2 3:3][4:4 5:5])");
        x.alike(0, 3, 1);
        is("37 shows nothing", x.shown(9), ' ');
    }

    // ---- promises 38, 39
    private static void lines() {
        WideMap x = new WideMap();
        Due.map(x, "1:1");
        Due.map(x, "2:2");
        x.having(0, 3, 3);
        x.having(2, 4, 4);
        x.having(2, 5, 5);
        x.merge(3, 1, 0);
        x.three(0, 4, 5, 0);
        x.slice(6, 0, 999);
        int[][] forks = {{0, 0, 0}, {0, 1, NONE}, {3, 4, 2}, {4, 3, 2}, {3, 2, 2}, {2, 0, 0}, {5, 3, 3}, {5, 1, 1},
            {5, 4, 2}, {6, 5, 5}, {7, 6, 6}, {7, 1, 1}, {7, 3, 3}, {7, 7, 7}, {1, 4, NONE}};
        for (int[] fork : forks) {
            is("38 fork " + fork[0] + " " + fork[1], x.fork(fork[0], fork[1]), fork[2]);
        }
        int[] seven = {1, 1, 1, 1, 1, 1, 1, 1, NONE};
        int[] five = {1, 1, 1, 1, 0, 1, 0, 0, NONE};
        int[] three = {1, 0, 1, 1, 0, 0, 0, 0, NONE};
        x.drop(2);
        x.drop(0);
        for (int number = 0; number < 9; number++) {
            is("39 seven from " + number, x.comesFrom(7, number), seven[number]);
            is("39 five from " + number, x.comesFrom(5, number), five[number]);
            is("39 three from " + number, x.comesFrom(3, number), three[number]);
        }
        is("39 below", x.comesFrom(3, -1), NONE);
        is("39 no map", x.comesFrom(2, 0), NONE);
        is("39 no map", x.comesFrom(9, 0), NONE);
        is("38 one not held", x.fork(3, 4), 2);
        is("38 no map", x.fork(2, 3), NONE);
        is("38 no map", x.fork(3, 0), NONE);
        is("38 no status", x.status(0), 0);
    }

    // ---- promises 40 to 42
    private static void showing() {
        WideMap x = narrow();
        Due.map(x, "0:0,7:-7,010:10,100:-100,999:-999");
        String text = "([0:0 7:-7][10:10 100:-100 999:-999])";
        is("40 bytes", x.show(0), text.length());
        for (int i = 0; i < text.length(); i++) {
            is("41 sign", x.shown(i), text.charAt(i));
        }
        is("41 behind", x.shown(text.length()), NONE);
        is("41 below", x.shown(-1), NONE);
        is("40 no map", x.show(1), NONE);
        is("41 stays", x.shown(1), '[');
        long sum = 0;
        for (char sign : text.toCharArray()) {
            sum = (sum * 31 + sign) % 1000003;
        }
        Due.map(x, "");
        is("42 digest", x.digest(0), sum);
        is("42 digest", x.digest(1), 91 * 31 + 93);
        is("42 shows nothing", x.shown(0), '(');
        is("42 no map", x.digest(2), NONE);
        is("40 again", x.show(1), 2);
        is("41 the latest", x.shown(0), '[');
        is("41 the latest alone", x.shown(2), NONE);
        x.drop(1);
        is("40 dropped", x.show(1), NONE);
        is("42 dropped", x.digest(1), NONE);
        is("41 stays", x.shown(1), ']');
        WideMap y = new WideMap();
        int full = Due.full(y, -999);
        is("40 a full one", y.show(full), 10 * 6 + 50 * 7 + 60 + y.about(full, 2) * 2 - y.about(full, 3));
    }

    // ---- promise 43
    private static void statuses() {
        WideMap x = new WideMap();
        x.drop(0);
        x.wide(0);
        x.wide(0);
        is("43 0", x.status(0), 1);
        is("43 1", x.status(1), 2);
        is("43 2", x.status(2), 0);
        Due.map(x, "");
        x.lay(0, 1, 1);
        is("43 2", x.status(2), 1);
        is("43 no such", x.status(5), NONE);
        is("43 no such", x.status(-1), NONE);
    }

    // ---- promises 44, 45
    private static void images() {
        WideMap x = new WideMap();
        Due.map(x, "1:1");
        Due.map(x, "2:2");
        is("45 none", x.back(), NONE);
        is("44 image", x.image(), 2);
        x.drop(0);
        x.having(1, 3, 3);
        x.build(3, 2);
        int made = x.count(3);
        is("45 back", x.back(), 2);
        is("45 held again", x.find(0, 1), 1);
        is("45 no others", x.find(2, 3), HIDDEN);
        is("45 stale", x.count(7), 0);
        is("45 numbers go on", x.count(2), 3);
        is("45 made goes on", x.count(3), made);
        is("45 the next one", x.having(0, 1, 5), 3);
        is("45 a second time", x.back(), 2);
        x.drop(1);
        is("44 instead of the one ahead", x.image(), 1);
        x.having(0, 1, 5);
        is("45 the later image", x.back(), 1);
        is("45 the later image", x.find(1, 2), HIDDEN);
        is("45 lines stay", x.having(0, 2, 2), 5);
        is("45 lines stay", x.comesFrom(5, 0), 1);
        x.drop(0);
        x.drop(5);
        is("44 of none", x.image(), 0);
        Due.map(x, "");
        is("45 of none", x.back(), 0);
        is("45 of none", x.count(1), 0);
        x.wide(4);
        is("45 since open", x.back(), NONE);
        for (int what = 0; what < 5; what++) {
            is("45 no status", x.status(what), 0);
        }
        // no map held lives on in the image alone
        Due.map(x, EIGHT);
        x.image();
        x.drop(0);
        is("44 an image keeps nothing live", x.count(4), 0);
    }

    // ---- promise 46
    private static void counts() {
        WideMap x = narrow();
        Due.map(x, EIGHT);
        x.having(0, 8, 0);
        x.build(1, 0);
        x.build(3, 0);
        x.lay(1, 1, 0);
        Due.program(x, "snap");
        Due.tape(x, "abc");
        int[] counts = {3, 2, 2, 7 + 3 + 3, 7 + 3 + 3, 1, 3, 10};
        for (int what = 0; what < counts.length; what++) {
            is("46 count " + what, x.count(what), counts[what]);
        }
        is("46 others", x.count(8), HIDDEN);
        is("46 others", x.count(-1), HIDDEN);
        is("46 after marks", x.shared(0, 1) + x.shared(0, 0) + x.count(4), 4 + 7 + 13);
        is("46 the same again", x.count(4), 13);
        x.drop(0);
        is("46 the builder has them", x.count(4), 13);
        x.build(3, 1);
        is("46 the other builder has them but three", x.count(4), 10 + 3 - 2 + 1);
        x.freeze(1);
        is("46 bits", x.count(7), 8);
        is("46 the map has them now", x.count(4), 12);
        x.drop(2);
        is("46 of one map", x.count(4), 7);
        x.drop(1);
        is("46 of one builder", x.count(4), 7);
        x.image();
        x.back();
        is("46 of none", x.count(4), 0);
        WideMap y = new WideMap();
        Due.map(y, "1:1");
        is("46 of the first map", y.count(4), 1);
        y.build(0, 0);
        is("46 the first builder", y.count(7), 1);
        y.image();
        y.back();
        is("45 the first builder is stale", y.count(7), 0);
    }

    // ---- numbers up to 998
    private static void numbersRunOut() {
        WideMap x = new WideMap();
        Due.map(x, "1:1");
        Due.program(x, "snap;".repeat(15) + "snap");
        x.image();
        while (x.count(2) < 990) {
            x.build(0, 0);
            x.run(0, 0);
            x.back();
        }
        x.build(0, 0);
        int left = 999 - x.count(2);
        is("27 to the last number", x.run(0, 0), left);
        is("27 numbers", x.count(2), 999);
        x.back();
        is("27 none left", x.count(1), 1);
        is("5 none left", x.text(0) + x.having(0, 1, 1) + x.lacking(0, 1) + x.merge(0, 0, 0), 4 * NONE);
        is("17 none left", x.three(0, 0, 0, 0) + x.slice(0, 1, 1), 2 * NONE);
        x.build(0, 0);
        is("27 none left", x.snap(0) + x.freeze(0), 2 * NONE);
        is("27 status", x.status(4), 8);
        is("33 none left", x.run(0, 0), 0);
        x.back();
        is("39 998 is given", x.comesFrom(0, 998), 0);
        WideMap y = new WideMap();
        Due.map(y, "1:1");
        Due.program(y, "snap;".repeat(15) + "snap");
        y.image();
        while (y.count(2) < 999) {
            y.back();
            y.build(0, 0);
            y.run(0, 0);
        }
        is("38 of the last one", y.fork(998, 998), 998);
        is("38 of the last one", y.fork(998, 997), 997);
        is("39 of the last one", y.comesFrom(998, 998), 1);
        is("20 of the last one", y.drop(998) >= 1, true);
        is("39 999 is not", x.comesFrom(0, 999), NONE);
        x.wide(4);
        is("6 from the first again", x.text(0), 0);
    }

    /** No call may answer by what the machine throws. */
    private static void oddArguments() {
        int[] odd = {LEAST, -1000000, -2, -1, 0, 1, 3, 59, 60, 240, 998, 999, 1000, MOST};
        WideMap x = narrow();
        Due.map(x, EIGHT);
        Due.program(x, "snap");
        for (int a : odd) {
            for (int b : odd) {
                x.build(0, 0);
                x.find(a, b);
                x.about(a, b);
                x.below(a, b);
                x.shared(a, b);
                x.looked(a, b);
                x.fork(a, b);
                x.comesFrom(a, b);
                x.peek(a, b);
                x.builder(a, b);
                x.take(a, b);
                x.run(a, b);
                x.build(a, b);
                keyOf(x, a, b);
                x.draws(a, b, Long.MIN_VALUE);
                for (int c : odd) {
                    x.near(0, b, c);
                    x.total(0, b, c);
                    x.node(0, b, c);
                    x.step(a, b, c);
                    x.lay(0, b, c);
                    x.add(a, b, c);
                    x.cut(0, b, c);
                    x.inc(0, b, c, a);
                    x.conflicts(a, b, c);
                    x.alike(a, b, c);
                    x.difference(0, a, b, c);
                    x.merge(a, b, c);
                    x.three(0, a, b, c);
                    x.slice(a, b, c);
                    x.having(a, b, c);
                }
            }
            x.lacking(0, a);
            x.lacking(a, 0);
            x.snap(a);
            x.freeze(a);
            x.show(a);
            x.shown(a);
            x.digest(a);
            x.status(a);
            x.count(a);
            x.fault(a);
            x.end(a);
            x.text(a);
        }
        for (int a : odd) {
            x.drop(a);
            x.wide(a);
        }
        is("7 to 46 end", x.count(0), 3);
    }
}
