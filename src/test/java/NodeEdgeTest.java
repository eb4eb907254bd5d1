/** Boundary cases of NODES: where they part, give, join, as PUT and TAKE OUT ask (promises 14, 15, 22, 23, 5, 13). */
public final class NodeEdgeTest {
    private static Edges edges;

    public static void main(String[] args) {
        edges = new Edges("NodeEdgeTest");
        putting();
        parting();
        children();
        tokens();
        leavesThatStay();
        leavesThatGive();
        leavesThatJoin();
        innerNodes();
        roots();
        edges.close();
    }

    /** A map of these keys, PUT in this order, each with the value 0. */
    private static int told(WideMap x, String keys) {
        return Due.map(x, keys.replace(" ", ":0,") + ":0");
    }

    /** Without the key the map looks so, and so many nodes were made. */
    private static int without(WideMap x, int map, int key, int made, String keys) {
        int before = x.count(3);
        int less = x.lacking(map, key);
        edges.is("made without " + key, x.count(3) - before, made);
        edges.keys(x, less, keys);
        return less;
    }

    private static int with(WideMap x, int map, int key, int made, String keys) {
        int before = x.count(3);
        int more = x.having(map, key, 0);
        edges.is("made with " + key, x.count(3) - before, made);
        edges.keys(x, more, keys);
        return more;
    }

    private static void putting() {
        edges.edge("PUT: is the KEY there with that VALUE, nothing is done", x -> {
            x.wide(3);
            Due.map(x, Edges.EIGHT);
            int made = x.count(3);
            for (int key = 1; key <= 8; key++) {
                edges.is("having", x.having(0, key, key), key);
                edges.is("all is shared", x.shared(0, key), 7);
            }
            edges.is("MADE", x.count(3), made);
        });
        edges.edge("PUT: its VALUE is the new one, no NODE parts", x -> {
            x.wide(3);
            int map = told(x, "1 2 3");
            int made = x.count(3);
            edges.is("having", x.having(map, 2, -999), 1);
            edges.looks(x, 1, "[1:0 2:-999 3:0]");
            edges.is("MADE", x.count(3) - made, 1);
        });
        edges.edge("PUT into an empty LEAF", x -> {
            x.text(0);
            with(x, 0, 5, 1, "[5]");
            edges.looks(x, 0, "[]");
        });
        edges.edge("PUT at either end of a LEAF, and within", x -> {
            x.wide(6);
            int map = told(x, "500");
            map = with(x, map, 0, 1, "[0 500]");
            map = with(x, map, 999, 1, "[0 500 999]");
            map = with(x, map, 1, 1, "[0 1 500 999]");
            with(x, map, 998, 1, "[0 1 500 998 999]");
        });
    }

    private static void parting() {
        String[] full = {"1 2 3", "1 2 3 4", "1 2 3 4 5", "1 2 3 4 5 6"};
        String[] behind = {"([1 2][3 9])", "([1 2 3][4 9])", "([1 2 3][4 5 9])", "([1 2 3 4][5 6 9])"};
        String[] ahead = {"([0 1][2 3])", "([0 1 2][3 4])", "([0 1 2][3 4 5])", "([0 1 2 3][4 5 6])"};
        for (int w = 3; w <= 6; w++) {
            int width = w;
            edges.edge("a LEAF with " + width + " ENTRIES is full, with one more it parts", x -> {
                x.wide(width);
                int map = told(x, full[width - 3]);
                edges.is("one NODE", x.about(map, 2), 1);
                with(x, map, 9, 3, behind[width - 3]);
                with(x, map, 0, 3, ahead[width - 3]);
            });
            int stays = (width + 2) / 2;
            int last = width * stays + width + 1 - stays;
            edges.edge("an INNER NODE with " + width + " CHILDREN is full, with one more it parts", x -> {
                x.wide(width);
                int map = told(x, "1");
                x.build(0, map);
                Due.layAll(x, 0, 2, last - 1, 0);
                int before = x.snap(0);
                edges.is("LEVELS", x.about(before, 1), 2);
                edges.is("CHILDREN", x.node(before, 0, 1), width);
                edges.is("made: way, LEAF, INNER NODE, ROOT", x.lay(0, last, 0), 5);
                int after = x.snap(0);
                edges.is("LEVELS", x.about(after, 1), 3);
                edges.is("CHILDREN of the ROOT", x.node(after, 0, 1), 2);
                edges.is("CHILDREN of the first", x.node(after, 1, 1), stays);
                edges.is("CHILDREN of the second", x.node(after, 2 + stays, 1), width + 1 - stays);
            });
        }
        edges.edge("as far up as need be: three LEVELS part at once", x -> {
            x.wide(3);
            told(x, "1");
            x.build(0, 0);
            Due.layAll(x, 0, 2, 15, 0);
            edges.is("LEVELS", x.about(x.snap(0), 1), 3);
            edges.is("made: three of the way, three behind, a ROOT", x.lay(0, 16, 0), 7);
            int map = x.snap(0);
            edges.is("LEVELS", x.about(map, 1), 4);
            edges.keys(x, map, "((([1 2][3 4])([5 6][7 8]))(([9 10][11 12])([13 14][15 16])))");
        });
    }

    private static void children() {
        edges.edge("The CHILD for a KEY: the last one whose lowest KEY is that or less, else the first one", x -> {
            x.wide(4);
            int map = told(x, "10 20 30 40 50");
            edges.keys(x, map, "([10 20 30][40 50])");
            with(x, map, 39, 2, "([10 20 30 39][40 50])");
            with(x, map, 41, 2, "([10 20 30][40 41 50])");
            with(x, map, 9, 2, "([9 10 20 30][40 50])");
            with(x, map, 999, 2, "([10 20 30][40 50 999])");
            edges.is("its lowest KEY itself", x.find(map, 40), 0);
        });
        edges.edge("The CHILD for a KEY on two LEVELS, below all of them", x -> {
            x.wide(3);
            told(x, "10 9 3 4 5 6 7 8");
            edges.keys(x, 0, "(([3 4][5 6])([7 8][9 10]))");
            with(x, 0, 0, 3, "(([0 3 4][5 6])([7 8][9 10]))");
            with(x, 0, 99, 3, "(([3 4][5 6])([7 8][9 10 99]))");
        });
    }

    private static void tokens() {
        edges.edge("To EDIT a NODE by a TOKEN: its own is changed itself, another one is copied", x -> {
            x.wide(3);
            Due.map(x, Edges.EIGHT);
            x.build(0, 0);
            edges.is("the way is copied", x.lay(0, 1, 9), 3);
            edges.is("the same LEAF", x.lay(0, 2, 9), 0);
            edges.is("the LEAF beside it", x.lay(0, 3, 9), 1);
            edges.is("beneath another INNER NODE", x.lay(0, 8, 9), 2);
            edges.is("all but one are its own", x.builder(0, 2), 6);
            edges.looks(x, 0, "(([1:1 2:2][3:3 4:4])([5:5 6:6][7:7 8:8]))");
        });
        edges.edge("a MAP told as a TEXT is of one TOKEN: an empty LEAF (MADE, too), no copies", x -> {
            x.wide(3);
            Due.map(x, Edges.EIGHT);
            edges.is("MADE", x.count(3), 7);
            x.text(0);
            edges.is("MADE by an empty one", x.count(3), 8);
        });
        edges.edge("a TOKEN is no other's, not of a MAP told as a TEXT, not of another BUILDER", x -> {
            x.text(0);
            x.build(0, 0);
            x.build(1, 0);
            edges.is("the first", x.lay(0, 1, 1), 1);
            edges.is("the second", x.lay(1, 1, 1), 1);
            x.freeze(0);
            x.build(0, 1);
            edges.is("the first again", x.lay(0, 1, 2), 1);
        });
    }

    private static void leavesThatStay() {
        String[] maps = {"1 2 3 4 5", "1 2 3 4 5", "1 2 3 4 5 6 7", "1 2 3 4 5 6 7"};
        String[] shown = {"([1 2][3 4 5])", "([1 2 3][4 5])", "([1 2 3][4 5 6 7])", "([1 2 3 4][5 6 7])"};
        int[] out = {5, 1, 7, 1};
        String[] less = {"([1 2][3 4])", "([2 3][4 5])", "([1 2 3][4 5 6])", "([2 3 4][5 6 7])"};
        for (int w = 3; w <= 6; w++) {
            int width = w;
            edges.edge("WIDTH " + width + ": a LEAF with LEAST stays as it is", x -> {
                x.wide(width);
                int map = told(x, maps[width - 3]);
                edges.keys(x, map, shown[width - 3]);
                without(x, map, out[width - 3], 2, less[width - 3]);
            });
        }
        edges.edge("TAKE OUT: is the KEY not there, nothing is done", x -> {
            x.wide(3);
            Due.map(x, Edges.EIGHT);
            int made = x.count(3);
            int[] keys = {0, 9, 999};
            for (int i = 0; i < keys.length; i++) {
                edges.is("lacking", x.lacking(0, keys[i]), i + 1);
                edges.is("all is shared", x.shared(0, i + 1), 7);
            }
            edges.is("MADE", x.count(3), made);
        });
    }

    private static void leavesThatGive() {
        edges.edge("has the CHILD ahead of it more than LEAST, its last one comes to be the first of this", x -> {
            x.wide(4);
            without(x, told(x, "1 2 3 4 5"), 5, 3, "([1 2][3 4])");
            x.wide(6);
            without(x, told(x, "1 2 3 4 5 6 7"), 6, 3, "([1 2 3][4 5 7])");
            x.wide(3);
            without(x, with(x, told(x, "1 2 3 4"), 0, 2, "([0 1 2][3 4])"), 3, 3, "([0 1][2 4])");
            x.wide(5);
            without(x, with(x, told(x, "1 2 3 4 5 6"), 0, 2, "([0 1 2 3][4 5 6])"), 6, 3, "([0 1 2][3 4 5])");
        });
        edges.edge("else, has the CHILD behind it more than LEAST, its first one comes to be the last of this", x -> {
            x.wide(3);
            without(x, told(x, "1 2 3 4 5"), 1, 3, "([2 3][4 5])");
            x.wide(4);
            without(x, without(x, told(x, "1 2 3 4 5 6"), 1, 2, "([2 3][4 5 6])"), 3, 3, "([2 4][5 6])");
            x.wide(5);
            without(x, told(x, "1 2 3 4 5 6 7"), 2, 3, "([1 3 4][5 6 7])");
            x.wide(6);
            int map = without(x, told(x, "1 2 3 4 5 6 7 8"), 1, 2, "([2 3 4][5 6 7 8])");
            without(x, map, 4, 3, "([2 3 5][6 7 8])");
        });
        edges.edge("the one ahead is asked first", x -> {
            x.wide(3);
            int map = told(x, "1 2 3 4 5 6 0 7");
            edges.keys(x, map, "([0 1 2][3 4][5 6 7])");
            without(x, map, 4, 3, "([0 1][2 3][5 6 7])");
        });
        edges.edge("one ahead with LEAST does not give, one behind with more does", x -> {
            x.wide(3);
            int map = told(x, "1 2 3 4 5 6 7");
            edges.keys(x, map, "([1 2][3 4][5 6 7])");
            without(x, map, 3, 3, "([1 2][4 5][6 7])");
        });
        edges.edge("the one that gives is EDITED: its own is not copied", x -> {
            x.wide(3);
            told(x, "1 2 3 4");
            x.build(0, 0);
            edges.is("the first LEAF is copied", x.lay(0, 0, 0), 2);
            edges.is("the second, too", x.take(0, 4), 1);
            edges.keys(x, x.snap(0), "([0 1][2 3])");
        });
    }

    private static void leavesThatJoin() {
        edges.edge("else, is there one ahead, that one takes all of this behind its own", x -> {
            x.wide(3);
            without(x, told(x, "1 2 3 4 5 6"), 3, 3, "([1 2 4][5 6])");
            without(x, told(x, "1 2 3 4 5 6"), 6, 3, "([1 2][3 4 5])");
            x.wide(5);
            without(x, told(x, "1 2 3 4 5 6"), 5, 3, "[1 2 3 4 6]");
            x.wide(6);
            int map = without(x, told(x, "1 2 3 4 5 6 7"), 1, 2, "([2 3 4][5 6 7])");
            without(x, map, 7, 3, "[2 3 4 5 6]");
        });
        edges.edge("else this takes all of the one behind it (that is not EDITED)", x -> {
            x.wide(3);
            int map = told(x, "1 2 3 4 5 6");
            edges.is("numbers", map, 0);
            without(x, map, 1, 2, "([2 3 4][5 6])");
            without(x, map, 2, 2, "([1 3 4][5 6])");
            edges.keys(x, map, "([1 2][3 4][5 6])");
            edges.is("the last LEAF is shared", x.shared(0, 1), 1);
            x.wide(4);
            without(x, without(x, told(x, "1 2 3 4 5"), 1, 2, "([2 3][4 5])"), 2, 2, "[3 4 5]");
        });
        edges.edge("a LEAF that was taken whole into another stays as it was in its MAP", x -> {
            x.wide(3);
            int map = told(x, "1 2 3 4");
            without(x, map, 1, 2, "[2 3 4]");
            without(x, map, 4, 3, "[1 2 3]");
            edges.keys(x, map, "([1 2][3 4])");
        });
    }

    private static void innerNodes() {
        edges.edge("an INNER CHILD with fewer than LEAST takes the last of the one ahead", x -> {
            x.wide(3);
            int map = told(x, "11 12 13 14 15 16 17 18 1 2");
            edges.keys(x, map, "(([1 2][11 12][13 14])([15 16][17 18]))");
            without(x, map, 18, 5, "(([1 2][11 12])([13 14][15 16 17]))");
        });
        edges.edge("an INNER CHILD with fewer than LEAST takes the first of the one behind", x -> {
            x.wide(3);
            int map = told(x, "1 2 3 4 5 6 7 8 9 10");
            edges.keys(x, map, "(([1 2][3 4])([5 6][7 8][9 10]))");
            without(x, map, 1, 4, "(([2 3 4][5 6])([7 8][9 10]))");
        });
        edges.edge("an INNER CHILD with fewer than LEAST joins the one ahead, that ROOT is the ROOT no more", x -> {
            x.wide(3);
            int map = told(x, "1 2 3 4 5 6 7 8");
            without(x, map, 8, 5, "([1 2][3 4][5 6 7])");
            without(x, map, 5, 4, "([1 2][3 4][6 7 8])");
        });
        edges.edge("an INNER CHILD with fewer than LEAST takes all of the one behind", x -> {
            x.wide(3);
            int map = told(x, "1 2 3 4 5 6 7 8");
            without(x, map, 1, 3, "([2 3 4][5 6][7 8])");
            without(x, map, 4, 4, "([1 2 3][5 6][7 8])");
        });
        edges.edge("an INNER CHILD with LEAST stays as it is", x -> {
            x.wide(3);
            int map = told(x, "1 2 3 4 5 6 7 8 9 10");
            without(x, map, 10, 4, "(([1 2][3 4])([5 6][7 8 9]))");
            without(x, map, 5, 3, "(([1 2][3 4])([6 7 8][9 10]))");
        });
        edges.edge("of three INNER CHILDREN two join, the ROOT stays", x -> {
            x.wide(3);
            int map = told(x, "1 2 3 4 5 6 7 8 9 10 11 12");
            edges.keys(x, map, "(([1 2][3 4])([5 6][7 8])([9 10][11 12]))");
            without(x, map, 1, 3, "(([2 3 4][5 6][7 8])([9 10][11 12]))");
            without(x, map, 5, 4, "(([1 2][3 4][6 7 8])([9 10][11 12]))");
            without(x, map, 12, 5, "(([1 2][3 4])([5 6][7 8][9 10 11]))");
        });
    }

    private static void roots() {
        edges.edge("a ROOT that is a LEAF may have none, and fewer than LEAST", x -> {
            x.wide(6);
            int map = told(x, "1 2 3");
            map = without(x, map, 2, 1, "[1 3]");
            map = without(x, map, 3, 1, "[1]");
            map = without(x, map, 1, 1, "[]");
            without(x, map, 1, 0, "[]");
        });
        edges.edge("An INNER ROOT with two CHILDREN is the ROOT still, with one no more", x -> {
            x.wide(6);
            int map = told(x, "1 2 3 4 5 6 7");
            map = without(x, map, 1, 2, "([2 3 4][5 6 7])");
            map = without(x, map, 2, 2, "[3 4 5 6 7]");
            edges.is("LEVELS", x.about(map, 1), 1);
        });
        edges.edge("sixty KEYS put, and all taken out again, in every WIDTH", x -> {
            for (int width = 3; width <= 6; width++) {
                x.wide(width);
                x.text(0);
                x.build(0, 0);
                Due.layAll(x, 0, 0, 59, 1);
                edges.is("KEYS", x.builder(0, 0), 60);
                for (int i = 0; i < 60; i++) {
                    x.take(0, i * 7 % 60);
                }
                edges.is("KEYS", x.builder(0, 0), 0);
                edges.is("NODES", x.builder(0, 1), 1);
                edges.looks(x, x.snap(0), "[]");
            }
        });
    }
}
