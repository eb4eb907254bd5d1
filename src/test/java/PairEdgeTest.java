/** Boundary cases of what two MAPS share, where they differ, whence they come: promises 34 to 39. */
public final class PairEdgeTest {
    private static final int NONE = Edges.NONE;
    private static final int HIDDEN = Edges.HIDDEN;
    private static final int LEAST = Edges.LEAST;
    private static final int MOST = Edges.MOST;

    private static Edges edges;

    public static void main(String[] args) {
        edges = new Edges("PairEdgeTest");
        sharing();
        looking();
        differing();
        differingHidden();
        alike();
        forks();
        lines();
        edges.close();
    }

    private interface Pair {
        int ask(WideMap x, int map, int other);
    }

    private static void noMaps(String told, int want, Pair asked) {
        edges.edge(told + ": no such MAPS", x -> {
            Edges.three(x);
            for (int map : Edges.noMaps()) {
                edges.quiet("of " + map + " and 0", x, want, y -> asked.ask(y, map, 0));
                edges.quiet("of 0 and " + map, x, want, y -> asked.ask(y, 0, map));
                edges.quiet("of " + map + " twice", x, want, y -> asked.ask(y, map, map));
            }
        });
    }

    // ---- promise 34
    private static void sharing() {
        edges.edge("34 SHARED: all, some, none", x -> {
            Edges.three(x);
            x.having(0, 8, 9);
            x.lacking(0, 999);
            edges.quiet("itself", x, 7, y -> y.shared(0, 0));
            edges.quiet("the same ROOT", x, 7, y -> y.shared(0, 4));
            edges.quiet("some", x, 4, y -> y.shared(0, 3));
            edges.quiet("the other way", x, 4, y -> y.shared(3, 0));
            edges.quiet("none", x, 0, y -> y.shared(0, 2));
        });
        edges.edge("34 NODES alike are not one and the same", x -> {
            Due.map(x, "1:1");
            Due.map(x, "1:1");
            x.text(0);
            x.text(0);
            edges.is("told twice", x.shared(0, 1), 0);
            edges.is("two empty ones", x.shared(2, 3), 0);
            edges.is("an empty one and itself", x.shared(2, 2), 1);
        });
        edges.edge("34 of sixty KEYS", x -> {
            x.wide(3);
            int full = Due.full(x, 1);
            int other = x.having(full, 59, 2);
            edges.is("all", x.shared(full, full), 56);
            edges.is("all but one of each LEVEL", x.shared(full, other), 51);
        });
        noMaps("34 NONE", NONE, WideMap::shared);
    }

    // ---- promise 35
    private static void looking() {
        edges.edge("35 LOOKED: none, those of the one, those of the other, all", x -> {
            Edges.three(x);
            x.having(0, 8, 9);
            x.having(0, 9, 9);
            x.lacking(0, 8);
            edges.quiet("itself", x, 0, y -> y.looked(0, 0));
            edges.quiet("three and three", x, 6, y -> y.looked(0, 3));
            edges.quiet("of the one more", x, 7, y -> y.looked(0, 5));
            edges.quiet("of the other more", x, 7, y -> y.looked(5, 0));
            edges.quiet("all", x, 8, y -> y.looked(0, 2));
        });
        edges.edge("35 of sixty KEYS", x -> {
            x.wide(3);
            int full = Due.full(x, 1);
            int empty = x.slice(full, 999, 999);
            int other = Due.full(x, 1);
            edges.is("none of the one", x.looked(empty, full), 57);
            edges.is("all of both", x.looked(full, other), 112);
        });
        noMaps("35 NONE", NONE, WideMap::looked);
    }

    // ---- promise 36
    private static void differing() {
        edges.edge("36 how many (i NONE): none, all", x -> {
            int full = Due.full(x, 1);
            int other = Due.full(x, 2);
            int empty = x.slice(full, 999, 999);
            int far = Due.map(x, Due.rising(800, 839, 0));
            edges.quiet("itself", x, 0, y -> y.difference(full, full, NONE, 0));
            edges.quiet("unlike VALUES", x, 60, y -> y.difference(full, other, NONE, 0));
            edges.quiet("in the one alone", x, 60, y -> y.difference(full, empty, NONE, 0));
            edges.quiet("in the other alone", x, 60, y -> y.difference(empty, full, NONE, 0));
            edges.quiet("each in one alone", x, 100, y -> y.difference(full, far, NONE, 0));
            edges.quiet("the last of them", x, 839, y -> y.difference(full, far, 99, 0));
            edges.quiet("no more", x, HIDDEN, y -> y.difference(full, far, 100, 0));
            edges.quiet("two empty ones", x, 0, y -> y.difference(empty, empty, NONE, 0));
        });
        edges.edge("36 the VALUE in the one, in the other (HIDDEN: none)", x -> {
            Due.map(x, "0:-999,5:5,7:0,999:999");
            Due.map(x, "0:999,5:5,8:0,999:998");
            int[][] all = {{0, -999, 999}, {7, 0, HIDDEN}, {8, HIDDEN, 0}, {999, 999, 998}};
            edges.is("how many", x.difference(0, 1, NONE, 0), 4);
            for (int i = 0; i < 4; i++) {
                for (int what = 0; what < 3; what++) {
                    edges.is("difference(0, 1, " + i + ", " + what + ")", x.difference(0, 1, i, what), all[i][what]);
                }
            }
        });
        edges.edge("36 the same ENTRIES in other NODES do not differ", x -> {
            x.wide(3);
            Due.map(x, "1:1,2:2,3:3,4:4,5:5");
            Due.map(x, "5:5,4:4,3:3,2:2,1:1");
            edges.is("how many", x.difference(0, 1, NONE, 0), 0);
            edges.is("the first", x.difference(0, 1, 0, 0), HIDDEN);
        });
    }

    private static void differingHidden() {
        edges.edge("36 HIDDEN: no such DIFFERENCE", x -> {
            Edges.three(x);
            edges.is("how many", x.difference(0, 2, NONE, 0), 8);
            for (int i : new int[] {LEAST, -2, 8, 9, MOST}) {
                for (int what = 0; what < 3; what++) {
                    int asked = what;
                    edges.quiet("i " + i + " " + what, x, HIDDEN, y -> y.difference(0, 2, i, asked));
                }
            }
            edges.quiet("the last", x, 9, y -> y.difference(0, 2, 7, 0));
            edges.quiet("of none", x, HIDDEN, y -> y.difference(0, 0, 0, 0));
        });
        edges.edge("36 HIDDEN: no such what", x -> {
            Edges.three(x);
            for (int what : new int[] {LEAST, -1, 3, 4, MOST}) {
                edges.quiet("what " + what, x, HIDDEN, y -> y.difference(0, 2, 0, what));
            }
        });
        noMaps("36 HIDDEN, i NONE", HIDDEN, (x, map, other) -> x.difference(map, other, NONE, 0));
        noMaps("36 HIDDEN, i 0", HIDDEN, (x, map, other) -> x.difference(map, other, 0, 0));
    }

    // ---- promise 37
    private static void alike() {
        edges.edge("37 Whether both hold the same (0): none, sixty, one unlike", x -> {
            int full = Due.full(x, 1);
            int other = Due.full(x, 1);
            int empty = x.slice(full, 999, 999);
            x.text(0);
            int told = x.count(2) - 1;
            edges.quiet("itself", x, 1, y -> y.alike(full, full, 0));
            edges.quiet("sixty", x, 1, y -> y.alike(full, other, 0));
            edges.quiet("two empty ones", x, 1, y -> y.alike(empty, told, 0));
            edges.quiet("none and sixty", x, 0, y -> y.alike(empty, full, 0));
            int last = x.having(full, 59, 2);
            edges.quiet("the last VALUE", x, 0, y -> y.alike(full, last, 0));
            int first = x.having(full, 0, 2);
            edges.quiet("the first VALUE", x, 0, y -> y.alike(first, full, 0));
            int fewer = x.lacking(full, 59);
            edges.quiet("one fewer", x, 0, y -> y.alike(full, fewer, 0));
            edges.quiet("one more", x, 0, y -> y.alike(fewer, full, 0));
            int moved = x.having(fewer, 999, 1);
            edges.quiet("another KEY", x, 0, y -> y.alike(full, moved, 0));
        });
        edges.edge("37 have NODES alike, too (1; as they are SHOWN)", x -> {
            x.wide(3);
            Due.map(x, "1:1,2:2,3:3,4:4,5:5");
            Due.map(x, "5:5,4:4,3:3,2:2,1:1");
            Due.map(x, "1:1,2:2,3:3,4:4,5:5");
            Due.map(x, "1:1,2:2,3:3,4:4,5:-5");
            x.text(0);
            x.text(0);
            edges.quiet("the same, NODES unlike", x, 1, y -> y.alike(0, 1, 0));
            edges.quiet("NODES unlike", x, 0, y -> y.alike(0, 1, 1));
            edges.quiet("NODES alike, not shared", x, 1, y -> y.alike(0, 2, 1));
            edges.quiet("NODES alike, a VALUE unlike", x, 0, y -> y.alike(0, 3, 1));
            edges.quiet("itself", x, 1, y -> y.alike(1, 1, 1));
            edges.quiet("two empty ones", x, 1, y -> y.alike(4, 5, 1));
            edges.quiet("one of them empty", x, 0, y -> y.alike(4, 0, 1));
        });
        edges.edge("37 the longest, with the last sign unlike", x -> {
            x.wide(3);
            int full = Due.full(x, -999);
            int other = x.having(full, 59, -998);
            edges.quiet("unlike", x, 0, y -> y.alike(full, other, 1));
            edges.quiet("like", x, 1, y -> y.alike(other, other, 1));
        });
        edges.edge("37 NONE: no such what", x -> {
            Edges.three(x);
            for (int what : new int[] {LEAST, -1, 2, 3, MOST}) {
                edges.quiet("alike(0, 2, " + what + ")", x, NONE, y -> y.alike(0, 2, what));
                edges.quiet("alike(0, 0, " + what + ")", x, NONE, y -> y.alike(0, 0, what));
            }
        });
        noMaps("37 NONE, 0", NONE, (x, map, other) -> x.alike(map, other, 0));
        noMaps("37 NONE, 1", NONE, (x, map, other) -> x.alike(map, other, 1));
    }

    // ---- promise 38
    private static void forks() {
        edges.edge("38 FORK of one with itself, with what it comes from", x -> {
            Edges.three(x);
            x.having(0, 1, 9);
            x.having(3, 1, 8);
            edges.quiet("itself", x, 0, y -> y.fork(0, 0));
            edges.quiet("its own child", x, 0, y -> y.fork(0, 3));
            edges.quiet("from itself, too", x, 3, y -> y.fork(4, 3));
            edges.quiet("through others, too", x, 0, y -> y.fork(4, 0));
        });
        edges.edge("38 the highest number, held or not", x -> {
            Due.map(x, "1:1");
            x.having(0, 2, 2);
            x.having(1, 3, 3);
            x.having(1, 4, 4);
            edges.is("held", x.fork(2, 3), 1);
            x.drop(1);
            edges.is("not held", x.fork(2, 3), 1);
            x.drop(0);
            edges.is("nor what it comes from", x.fork(3, 2), 1);
        });
        edges.edge("38 NONE: there is none", x -> {
            Edges.three(x);
            x.having(0, 1, 9);
            x.having(2, 1, 9);
            edges.quiet("two told", x, NONE, y -> y.fork(0, 2));
            edges.quiet("two lines", x, NONE, y -> y.fork(3, 4));
            edges.quiet("a line and a told one", x, NONE, y -> y.fork(2, 3));
        });
        edges.edge("38 NONE: no such MAPS, though both come from one", x -> {
            Due.map(x, "1:1");
            x.having(0, 2, 2);
            x.having(0, 3, 3);
            x.drop(1);
            edges.quiet("the one is not held", x, NONE, y -> y.fork(1, 2));
            edges.quiet("the other is not held", x, NONE, y -> y.fork(2, 1));
            edges.quiet("neither is", x, NONE, y -> y.fork(1, 1));
        });
        edges.edge("38 through either of the two of a MERGE, not through a BASE", x -> {
            Due.map(x, "1:1");
            Due.map(x, "2:2");
            Due.map(x, "3:3");
            x.merge(0, 1, 0);
            x.three(2, 0, 1, 0);
            edges.is("the one", x.fork(3, 0), 0);
            edges.is("the other", x.fork(1, 3), 1);
            edges.is("the higher one", x.fork(3, 4), 1);
            edges.is("not the BASE", x.fork(4, 2), NONE);
        });
        edges.edge("38 of the last numbers", x -> {
            x.text(0);
            Edges.spend(x, 3);
            x.lacking(0, 1);
            x.lacking(996, 1);
            x.lacking(996, 1);
            edges.is("997, 998", x.fork(997, 998), 996);
            edges.is("998 itself", x.fork(998, 998), 998);
            edges.is("998, 0", x.fork(998, 0), 0);
        });
        noMaps("38 NONE", NONE, WideMap::fork);
    }

    // ---- promise 39
    private static void lines() {
        edges.edge("39 from itself, too; held or not", x -> {
            Edges.three(x);
            x.having(0, 1, 9);
            x.having(3, 1, 8);
            edges.quiet("itself", x, 1, y -> y.comesFrom(4, 4));
            edges.quiet("one", x, 1, y -> y.comesFrom(4, 3));
            edges.quiet("through another", x, 1, y -> y.comesFrom(4, 0));
            edges.quiet("not from one not held", x, 0, y -> y.comesFrom(4, 1));
            edges.quiet("not from another", x, 0, y -> y.comesFrom(4, 2));
            edges.quiet("not the other way", x, 0, y -> y.comesFrom(0, 4));
            x.drop(3);
            x.drop(0);
            edges.quiet("one not held", x, 1, y -> y.comesFrom(4, 3));
            edges.quiet("through one not held", x, 1, y -> y.comesFrom(4, 0));
        });
        edges.edge("39 the number of a lower one from which it does not come", x -> {
            Due.map(x, "1:1");
            Due.map(x, "2:2");
            x.having(0, 3, 3);
            x.having(1, 3, 3);
            edges.is("2 from 1", x.comesFrom(2, 1), 0);
            edges.is("3 from 2", x.comesFrom(3, 2), 0);
            edges.is("3 from 1", x.comesFrom(3, 1), 1);
        });
        edges.edge("39 NONE: no such MAP", x -> {
            Edges.three(x);
            for (int map : Edges.noMaps()) {
                edges.quiet("comesFrom(" + map + ", 0)", x, NONE, y -> y.comesFrom(map, 0));
                edges.quiet("comesFrom(" + map + ", itself)", x, NONE, y -> y.comesFrom(map, map));
            }
        });
        edges.edge("39 NONE: no such number", x -> {
            Edges.three(x);
            for (int number : new int[] {LEAST, -1, 3, 4, 998, 999, 1000, MOST}) {
                edges.quiet("comesFrom(0, " + number + ")", x, NONE, y -> y.comesFrom(0, number));
            }
            edges.quiet("the last one given", x, 0, y -> y.comesFrom(0, 2));
        });
        edges.edge("39 of the last number", x -> {
            x.text(0);
            Edges.spend(x, 1);
            edges.quiet("not given yet", x, NONE, y -> y.comesFrom(0, 998));
            x.lacking(0, 1);
            edges.quiet("given", x, 0, y -> y.comesFrom(0, 998));
            edges.quiet("998 from 0", x, 1, y -> y.comesFrom(998, 0));
            edges.quiet("998 from itself", x, 1, y -> y.comesFrom(998, 998));
            edges.quiet("999", x, NONE, y -> y.comesFrom(998, 999));
        });
        edges.edge("39 along a line of many MAPS", x -> {
            x.text(0);
            Due.program(x, "snap;".repeat(13) + "snap");
            x.build(0, 0);
            x.run(0, 0);
            for (int round = 0; round < 30; round++) {
                for (int i = 0; i < 14; i++) {
                    x.drop(1 + round * 14 + i);
                }
                x.run(0, 0);
            }
            int last = x.count(2) - 1;
            edges.is("last", last, 434);
            edges.is("from the first", x.comesFrom(last, 0), 1);
            edges.is("from the one ahead", x.comesFrom(last, last - 1), 1);
            edges.is("fork", x.fork(0, last), 0);
        });
    }
}
