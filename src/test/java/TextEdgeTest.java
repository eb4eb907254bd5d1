import java.util.Set;

/** Boundary cases of a new object, the TAPE, texts, OPEN: promises 1 to 6 and 32. */
public final class TextEdgeTest {
    private static final int NONE = Edges.NONE;
    private static final int HIDDEN = Edges.HIDDEN;
    private static final int LEAST = Edges.LEAST;
    private static final int MOST = Edges.MOST;
    private static final int MAP = 0;
    private static final int PROGRAM = 1;

    private static Edges edges;

    public static void main(String[] args) {
        edges = new Edges("TextEdgeTest");
        newObject();
        feeding();
        ending();
        sorts();
        faultsAtTheEnd();
        numbers();
        blanks();
        words();
        mapSigns();
        stepCount();
        mapTexts();
        mapTextsRefused();
        programTexts();
        opening();
        openingStays();
        steps();
        edges.close();
    }

    private static void fault(WideMap x, int sort, String text, int want) {
        Due.tape(x, text);
        edges.is("tape of \"" + text + "\"", x.count(6), text.length());
        edges.is("fault(" + sort + ") of \"" + text + "\"", x.fault(sort), want);
        if (want != NONE) {
            edges.refused("text(" + sort + ") of \"" + text + "\"", x, Edges.NO_STATUS, y -> y.text(sort));
        } else {
            edges.is("text(" + sort + ") of \"" + text + "\"", x.text(sort), x.count(sort == MAP ? 2 : 5) - 1);
        }
    }

    // ---- promise 1
    private static void newObject() {
        edges.edge("1 WIDTH 4", x -> {
            edges.is("count(0)", x.count(0), 4);
            Due.map(x, "1:1,2:2,3:3,4:4");
            edges.looks(x, 0, "[1:1 2:2 3:3 4:4]");
            Due.map(x, "1:1,2:2,3:3,4:4,5:5");
            edges.looks(x, 1, "([1:1 2:2 3:3][4:4 5:5])");
        });
        edges.edge("1 no MAP", x -> {
            edges.is("held", x.count(1), 0);
            edges.is("numbers given", x.count(2), 0);
            edges.is("MADE", x.count(3), 0);
            edges.is("LIVE", x.count(4), 0);
            edges.refused("drop(0)", x, 0, y -> y.drop(0));
            edges.is("the first number", x.text(MAP), 0);
        });
        edges.edge("1 nothing else either", x -> {
            edges.is("PROGRAMS", x.count(5), 0);
            edges.is("TAPE", x.count(6), 0);
            edges.is("BUILDERS", x.count(7), 0);
            edges.is("SHOWN", x.shown(0), NONE);
            edges.is("IMAGE", x.back(), NONE);
            for (int what = 0; what < 5; what++) {
                edges.is("STATUS " + what, x.status(what), 0);
            }
        });
    }

    // ---- promise 2
    private static void feeding() {
        edges.edge("2 Twenty bytes more", x -> {
            edges.is("once", x.feed(0x313a322c, 0x333a342c, 0x353a362c, 0x373a382c, 0x393a2d31), 20);
            edges.is("twice", x.feed(0x2c313a32, 0x2c313a32, 0x2c313a32, 0x2c313a32, 0x2c313a32), 40);
            edges.is("no fault", x.fault(MAP), NONE);
            x.end(20);
            x.text(MAP);
            edges.looks(x, 0, "([1:2 3:4 5:6][7:8 9:-1])");
        });
        edges.edge("2 of each number the highest first", x -> {
            edges.is("1:23", x.feed(0x313a3233, 0, 0, 0, 0), 4);
            x.text(MAP);
            edges.is("1 is the key", x.find(0, 1), 23);
        });
        edges.edge("2 bytes of 0 are left out, all of them", x -> {
            edges.is("nothing more", x.feed(0, 0, 0, 0, 0), 0);
            edges.is("still nothing", x.count(6), 0);
        });
        edges.edge("2 bytes of 0 are left out, wherever they stand", x -> {
            edges.is("one byte each", x.feed(0x31000000, 0x003a0000, 0x00002d00, 0x00000032, 0), 4);
            edges.is("two bytes, one between", x.feed(0x2c003300, 0x003a0034, 0x00003500, 0, 0), 9);
            x.text(MAP);
            edges.looks(x, 0, "[1:-2 3:45]");
        });
        edges.edge("2 a byte of 255 is one", x -> {
            edges.is("four of 255", x.feed(-1, 0, 0, 0, 0), 4);
            edges.is("highest bit alone", x.feed(LEAST, 0, 0, 0, 0), 5);
        });
        edges.edge("2 240 are not more than 240", x -> {
            for (int i = 1; i <= 12; i++) {
                edges.is("feed " + i, x.feed(-1, -1, -1, -1, -1), 20 * i);
            }
            edges.is("bytes", x.count(6), 240);
        });
        edges.edge("2 NONE: more than 240, by one", x -> {
            for (int i = 0; i < 12; i++) {
                x.feed(-1, -1, -1, -1, -1);
            }
            edges.refused("the last byte of the last number", x, Edges.NO_STATUS, y -> y.feed(0, 0, 0, 0, 1));
            edges.refused("the first byte", x, Edges.NO_STATUS, y -> y.feed(0x01000000, 0, 0, 0, 0));
        });
        edges.edge("2 NONE: more than 240, by a byte of any of the five", x -> {
            for (int i = 0; i < 12; i++) {
                x.feed(-1, -1, -1, -1, -1);
            }
            for (int shift = 0; shift < 32; shift += 8) {
                int one = 1 << shift;
                edges.refused("a", x, Edges.NO_STATUS, y -> y.feed(one, 0, 0, 0, 0));
                edges.refused("b", x, Edges.NO_STATUS, y -> y.feed(0, one, 0, 0, 0));
                edges.refused("c", x, Edges.NO_STATUS, y -> y.feed(0, 0, one, 0, 0));
                edges.refused("d", x, Edges.NO_STATUS, y -> y.feed(0, 0, 0, one, 0));
                edges.refused("e", x, Edges.NO_STATUS, y -> y.feed(0, 0, 0, 0, one));
            }
        });
        edges.edge("2 NONE: more than 240, though some would fit", x -> {
            for (int i = 0; i < 11; i++) {
                x.feed(-1, -1, -1, -1, -1);
            }
            x.feed(-1, -1, -1, -1, 0xffffff);
            edges.refused("239 and two", x, Edges.NO_STATUS, y -> y.feed(0x31000000, 0, 0, 0, 0x31));
            edges.is("239 and one", x.feed(0, 0, 0x31, 0, 0), 240);
        });
        edges.edge("2 zeros are no more than 240", x -> {
            for (int i = 0; i < 12; i++) {
                x.feed(-1, -1, -1, -1, -1);
            }
            edges.is("none come", x.feed(0, 0, 0, 0, 0), 240);
        });
    }

    // ---- promise 3
    private static void ending() {
        edges.edge("3 its first n bytes alone: all, some, none", x -> {
            Due.tape(x, "1:23,4:5");
            edges.is("all", x.end(8), true);
            edges.is("all", x.count(6), 8);
            edges.is("some", x.end(3), true);
            edges.is("some", x.count(6), 3);
            x.feed(0x2c393a39, 0, 0, 0, 0);
            x.text(MAP);
            edges.looks(x, 0, "[1:2 9:9]");
            Due.tape(x, "7:7");
            edges.is("none", x.end(0), true);
            edges.is("none", x.count(6), 0);
        });
        edges.edge("3 False: n", x -> {
            Due.tape(x, "1:2");
            for (int n : new int[] {LEAST, -1, 4, 240, 241, MOST}) {
                edges.quiet("end(" + n + ")", x, 0, y -> y.end(n) ? 1 : 0);
            }
        });
        edges.edge("3 an empty TAPE has its first 0", x -> {
            edges.is("0", x.end(0), true);
            edges.is("1", x.end(1), false);
            edges.is("-1", x.end(-1), false);
        });
        edges.edge("3 240 of 240", x -> {
            for (int i = 0; i < 12; i++) {
                x.feed(-1, -1, -1, -1, -1);
            }
            edges.is("241", x.end(241), false);
            edges.is("240", x.end(240), true);
            edges.is("239", x.end(239), true);
            edges.is("240 again", x.end(240), false);
        });
    }

    // ---- promises 4, 5: sorts
    private static void sorts() {
        edges.edge("4 -2: no such sort", x -> {
            Due.tape(x, "snap");
            for (int sort : new int[] {LEAST, -2, -1, 2, 3, MOST}) {
                edges.quiet("fault(" + sort + ")", x, -2, y -> y.fault(sort));
            }
        });
        edges.edge("5 NONE: no such sort", x -> {
            Due.tape(x, "1:2");
            for (int sort : new int[] {LEAST, -2, -1, 2, 3, MOST}) {
                edges.refused("text(" + sort + ")", x, Edges.NO_STATUS, y -> y.text(sort));
            }
        });
        edges.edge("4 NONE: none, and nothing is read away", x -> {
            Due.tape(x, "1:2");
            edges.quiet("a MAP", x, NONE, y -> y.fault(MAP));
            edges.quiet("no PROGRAM", x, 0, y -> y.fault(PROGRAM));
        });
    }

    /** Each beginning of a good text is good itself, or ends too early: then its length is the FAULT. */
    private static void beginnings(WideMap x, int sort, String text, Set<Integer> good) {
        for (int n = 0; n <= text.length(); n++) {
            String beginning = text.substring(0, n);
            Due.tape(x, beginning);
            edges.is("fault(" + sort + ") of \"" + beginning + "\"", x.fault(sort), good.contains(n) ? NONE : n);
        }
    }

    private static void faultsAtTheEnd() {
        edges.edge("4 the length, if a MAP TEXT ends too early",
            x -> beginnings(x, MAP, " 12 : -34 , 5:678 ", Set.of(0, 1, 8, 9, 10, 15, 16, 17, 18)));
        edges.edge("4 the length, if a PROGRAM ends too early, by a number", x -> {
            beginnings(x, PROGRAM, "put 1 -23;add 4 5", Set.of(8, 9, 17));
            beginnings(x, PROGRAM, "inc 1 2-3;cut 45 67", Set.of(9, 18, 19));
        });
        edges.edge("4 the length, if a PROGRAM ends too early, by a word",
            x -> beginnings(x, PROGRAM, " snap ; snap;del 789", Set.of(5, 6, 12, 18, 19, 20)));
        edges.edge("4 the length, if a word ends too early with the text", x -> {
            for (String word : new String[] {"put", "del", "add", "cut", "inc"}) {
                for (int n = 0; n <= 3; n++) {
                    fault(x, PROGRAM, word.substring(0, n), n);
                }
            }
            fault(x, PROGRAM, "sna", 3);
        });
        edges.edge("4 240 bytes and no more", x -> {
            String blanks = " ".repeat(236);
            fault(x, PROGRAM, blanks + "snap", NONE);
            x.end(0);
            fault(x, PROGRAM, blanks + "sna;", 239);
            fault(x, PROGRAM, blanks + "    ", 240);
            fault(x, MAP, blanks + "1:23", NONE);
            fault(x, MAP, blanks + "1:2,", 240);
            fault(x, MAP, blanks + "1:2x", 239);
        });
    }

    private static void numbers() {
        edges.edge("4 a KEY: 1 to 3 digits", x -> {
            fault(x, MAP, "0:1,00:1,000:1,9:1,99:1,999:1", NONE);
            fault(x, MAP, ":1", 0);
            fault(x, MAP, "1:1,:1", 4);
            fault(x, PROGRAM, "del;", 3);
            fault(x, PROGRAM, "cut 1;", 5);
        });
        edges.edge("4 a VALUE: 1 to 3 digits", x -> {
            fault(x, MAP, "1:0,1:00,1:000,1:9,1:99,1:999,1:-9,1:-99,1:-999,1:-0", NONE);
            fault(x, MAP, "1:,", 2);
            fault(x, MAP, "1:-,", 3);
            fault(x, PROGRAM, "put 1;", 5);
            fault(x, PROGRAM, "put 1 -;", 7);
        });
        edges.edge("4 a fourth digit itself, of a KEY, whatever stands ahead of it", x -> {
            fault(x, MAP, "1000:1", 3);
            fault(x, MAP, "0000:1", 3);
            fault(x, MAP, " 0001:1", 4);
            fault(x, MAP, "1:1,9999:1", 7);
            fault(x, PROGRAM, "del 1000", 7);
            fault(x, PROGRAM, "del0000", 6);
            fault(x, PROGRAM, "cut 1 1000", 9);
            fault(x, PROGRAM, "inc 0001 2 3", 7);
        });
        edges.edge("4 a fourth digit itself, of a VALUE, whatever stands ahead of it", x -> {
            fault(x, MAP, "1:1000", 5);
            fault(x, MAP, "1:0000", 5);
            fault(x, MAP, "1:-1000", 6);
            fault(x, MAP, "1:-0001", 6);
            fault(x, PROGRAM, "put 1 1000", 9);
            fault(x, PROGRAM, "add 1-0001", 9);
            fault(x, PROGRAM, "inc 1 2 0009", 11);
        });
        edges.edge("4 perhaps - : one, and none for a KEY", x -> {
            fault(x, MAP, "-1:1", 0);
            fault(x, MAP, "1:--1", 3);
            fault(x, MAP, "1:+1", 2);
            fault(x, PROGRAM, "put -1 1", 4);
            fault(x, PROGRAM, "put 1 --1", 7);
            fault(x, PROGRAM, "del -1", 4);
            fault(x, PROGRAM, "cut 1 -2", 6);
            fault(x, PROGRAM, "inc 1-2 3", 5);
        });
        edges.edge("4 two numbers have one or more blanks between", x -> {
            fault(x, PROGRAM, "put 1 2", NONE);
            fault(x, PROGRAM, "cut 1    2", NONE);
            x.end(0);
            fault(x, PROGRAM, "put 12", 6);
            fault(x, PROGRAM, "inc 1 23", 8);
            fault(x, PROGRAM, "cut 123456", 7);
        });
        edges.edge("4 a - will do as well", x -> {
            fault(x, PROGRAM, "put 1-2", NONE);
            fault(x, PROGRAM, "inc 1 2-3", NONE);
            fault(x, PROGRAM, "add 999-999", NONE);
            edges.is("its number", x.step(0, 0, 2), -2);
        });
        edges.edge("4 no number where none is due", x -> {
            fault(x, PROGRAM, "snap 1", 5);
            fault(x, PROGRAM, "del 1 2", 6);
            fault(x, PROGRAM, "put 1 2 3", 8);
            fault(x, PROGRAM, "put 1 2-3", 7);
            fault(x, PROGRAM, "inc 1 2 3 4", 10);
            fault(x, MAP, "1:2 3", 4);
            fault(x, MAP, "1 2:3", 2);
        });
    }

    private static void blanks() {
        edges.edge("4 Blanks may stand between all signs", x -> {
            fault(x, MAP, "  1  :  -2  ,  3  :  4  ", NONE);
            fault(x, PROGRAM, "  put  1  -2  ;  snap  ;  inc  1  2  3  ", NONE);
            edges.looks(x, 0, "[1:-2 3:4]");
        });
        edges.edge("4 Blanks need not stand anywhere else", x -> fault(x, PROGRAM, "put1 2;del3;snap;inc4 5-6", NONE));
        edges.edge("4 Blanks are 32 alone", x -> {
            for (char sign : new char[] {1, 9, 10, 13, 31, 33, 160, 255}) {
                fault(x, MAP, "1" + sign + ":2", 1);
                fault(x, MAP, sign + "1:2", 0);
                fault(x, PROGRAM, "snap" + sign, 4);
            }
        });
        edges.edge("4 not within a word", x -> {
            fault(x, PROGRAM, "p ut 1 2", 1);
            fault(x, PROGRAM, "pu t 1 2", 2);
            fault(x, PROGRAM, "sna p", 3);
        });
        edges.edge("4 not within a number", x -> {
            fault(x, MAP, "1 2:3", 2);
            fault(x, MAP, "1:2 3", 4);
            fault(x, PROGRAM, "del 1 2", 6);
        });
        edges.edge("4 nor between - and a digit: the blank itself is wrong then", x -> {
            fault(x, MAP, "1:- 2", 3);
            fault(x, MAP, "1: -  2", 4);
            fault(x, PROGRAM, "put 1 - 2", 7);
            fault(x, PROGRAM, "inc 1 2- 3", 8);
        });
    }

    private static void words() {
        edges.edge("4 a letter with which no word begins", x -> {
            for (char sign : new char[] {'x', 'u', 'n', 'P', 'q', 'o', 'b', 'e', 'r', 't', 'j', 'h', ';', '1', '-', 200}) {
                fault(x, PROGRAM, sign + "ut 1 2", 0);
                fault(x, PROGRAM, "snap; " + sign, 6);
            }
        });
        edges.edge("4 or goes on so, itself", x -> {
            fault(x, PROGRAM, "pet 1 2", 1);
            fault(x, PROGRAM, "pul 1 2", 2);
            fault(x, PROGRAM, "adt 1 2", 2);
            fault(x, PROGRAM, "ink 1 2 3", 2);
            fault(x, PROGRAM, "snop", 2);
            fault(x, PROGRAM, "pUt 1 2", 1);
        });
        edges.edge("4 a letter behind the word", x -> {
            fault(x, PROGRAM, "putt 1 2", 3);
            fault(x, PROGRAM, "snaps", 4);
            fault(x, PROGRAM, "put 1 2x", 7);
            fault(x, PROGRAM, "put x", 4);
        });
        edges.edge("4 a word that ends too early: what stands next behind its letters, a blank, too", x -> {
            fault(x, PROGRAM, "pu 1 2", 2);
            fault(x, PROGRAM, "p", 1);
            fault(x, PROGRAM, "de1", 2);
            fault(x, PROGRAM, "sna;snap", 3);
            fault(x, PROGRAM, "sna  ;snap", 3);
            fault(x, PROGRAM, "snap;cu", 7);
            fault(x, PROGRAM, "snap;cu ", 7);
        });
    }

    private static void mapSigns() {
        edges.edge("4 , between, and no more of them", x -> {
            fault(x, MAP, ",", 0);
            fault(x, MAP, ",1:1", 0);
            fault(x, MAP, "1:1,", 4);
            fault(x, MAP, "1:1,,2:2", 4);
            fault(x, MAP, "1:1;2:2", 3);
            fault(x, MAP, "1:1 2:2", 4);
        });
        edges.edge("4 one : in each", x -> {
            fault(x, MAP, "1::1", 2);
            fault(x, MAP, "1,1", 1);
            fault(x, MAP, "1-1", 1);
            fault(x, MAP, "1:1:1", 3);
        });
        edges.edge("4 ; between, and no more of them", x -> {
            fault(x, PROGRAM, ";", 0);
            fault(x, PROGRAM, "snap;", 5);
            fault(x, PROGRAM, "snap;;snap", 5);
            fault(x, PROGRAM, "snap,snap", 4);
            fault(x, PROGRAM, "snap snap", 5);
        });
        edges.edge("4 An empty MAP TEXT is one without ENTRIES", x -> {
            fault(x, MAP, "", NONE);
            fault(x, MAP, "   ", NONE);
            edges.looks(x, 0, "[]");
            edges.looks(x, 1, "[]");
        });
    }

    private static void stepCount() {
        edges.edge("4 STEPS: 1 to 16, none is too few", x -> {
            fault(x, PROGRAM, "", 0);
            fault(x, PROGRAM, "   ", 3);
        });
        edges.edge("4 STEPS: 1 to 16, one and sixteen will do", x -> {
            fault(x, PROGRAM, "snap", NONE);
            fault(x, PROGRAM, "snap;".repeat(14) + "snap", NONE);
            fault(x, PROGRAM, "snap;".repeat(15) + "snap  ", NONE);
            edges.is("fifteen have a last one", x.step(1, 14, 0), 5);
            edges.is("fifteen have no sixteenth", x.step(1, 15, 0), HIDDEN);
            edges.is("sixteen have a last one", x.step(2, 15, 0), 5);
            edges.is("sixteen have no seventeenth", x.step(2, 16, 0), HIDDEN);
        });
        edges.edge("4 the ; ahead of a 17th STEP", x -> {
            fault(x, PROGRAM, "snap;".repeat(16) + "snap", 79);
            fault(x, PROGRAM, "snap;".repeat(16), 79);
            fault(x, PROGRAM, "snap;".repeat(16) + "x", 79);
            fault(x, PROGRAM, "snap;".repeat(15) + "snap  ; snap", 81);
            fault(x, PROGRAM, "snap;".repeat(15), 75);
            fault(x, PROGRAM, "snap;".repeat(15) + "snax", 78);
        });
    }

    // ---- promise 5
    private static void mapTexts() {
        edges.edge("5 an ENTRY of the least and of the greatest numbers", x -> {
            edges.is("text", Due.map(x, "0:-999,999:999,000:999,999:-999,1:-0"), 0);
            edges.looks(x, 0, "[0:999 1:0 999:-999]");
        });
        edges.edge("5 of one told again the later VALUE", x -> {
            Due.map(x, "5:1,4:4,5:2,5:-3");
            edges.looks(x, 0, "[4:4 5:-3]");
        });
        edges.edge("5 ENTRIES none", x -> {
            edges.is("text", x.text(MAP), 0);
            edges.looks(x, 0, "[]");
            edges.is("MADE, too", x.count(3), 1);
            edges.is("comes from none", x.about(0, 5), NONE);
        });
        edges.edge("5 61 unlike KEYS can't be told: 50 can", x -> {
            String text = Due.rising(0, 49, 0);
            edges.is("bytes", text.length(), 239);
            edges.is("text", Due.map(x, text), 0);
            edges.is("KEYS", x.about(0, 0), 50);
        });
        edges.edge("5 as many ENTRIES as 240 bytes hold", x -> {
            edges.is("sixty", Due.map(x, "7:1,".repeat(58) + "8:8,9:91"), 0);
            edges.looks(x, 0, "[7:1 8:8 9:91]");
        });
        edges.edge("5 the TAPE is empty then", x -> {
            Due.map(x, "1:1");
            edges.is("bytes", x.count(6), 0);
            edges.is("told again", x.text(MAP), 1);
            edges.looks(x, 1, "[]");
        });
        edges.edge("5 the sixteenth MAP still has room", x -> {
            for (int i = 0; i < 16; i++) {
                edges.is("text", x.text(MAP), i);
            }
            edges.is("held", x.count(1), 16);
        });
        edges.edge("5 the number 998 is the last one", x -> {
            x.text(MAP);
            Edges.spend(x, 1);
            edges.is("given", x.count(2), 998);
            edges.is("text", Due.map(x, "1:1"), 998);
            edges.is("find", x.find(998, 1), 1);
            edges.is("given", x.count(2), 999);
        });
    }

    private static void mapTextsRefused() {
        edges.edge("5 NONE: a FAULT", x -> {
            fault(x, MAP, "1:1,", 4);
            fault(x, MAP, "x", 0);
        });
        edges.edge("5 NONE: no room for a MAP (STATUS 4), 16 are held", x -> {
            x.text(MAP);
            Edges.crowd(x);
            Due.tape(x, "1:1");
            edges.refused("text(0)", x, 4, y -> y.text(MAP));
            x.drop(0);
            edges.is("the TAPE was kept", x.text(MAP), 16);
            edges.is("find", x.find(16, 1), 1);
        });
        edges.edge("5 NONE: no room for a MAP (STATUS 4), no number is left", x -> {
            x.text(MAP);
            Edges.spend(x, 0);
            Due.tape(x, "1:1");
            edges.is("held", x.count(1), 1);
            edges.refused("text(0)", x, 4, y -> y.text(MAP));
        });
        edges.edge("5 of several the first: a FAULT, though there is no room", x -> {
            x.text(MAP);
            Edges.crowd(x);
            fault(x, MAP, "1:", 2);
        });
        edges.edge("5 a PROGRAM needs no room for a MAP", x -> {
            x.text(MAP);
            Edges.crowd(x);
            edges.is("text(1)", Due.program(x, "snap"), 0);
        });
    }

    private static void programTexts() {
        edges.edge("5 PROGRAMS: four at most", x -> {
            for (int i = 0; i < 4; i++) {
                edges.is("text(1)", Due.program(x, "del " + i), i);
            }
            edges.is("PROGRAMS", x.count(5), 4);
            edges.is("the TAPE is empty then", x.count(6), 0);
            for (int i = 0; i < 4; i++) {
                edges.is("each its own", x.step(i, 0, 1), i);
            }
        });
        edges.edge("5 NONE: there are four PROGRAMS", x -> {
            for (int i = 0; i < 4; i++) {
                Due.program(x, "del " + i);
            }
            Due.tape(x, "put 7 8;snap");
            edges.refused("text(1)", x, Edges.NO_STATUS, y -> y.text(PROGRAM));
            edges.is("the last one as it was", x.step(3, 0, 1), 3);
            edges.is("the last one as it was", x.step(3, 1, 0), HIDDEN);
            edges.is("no fifth", x.step(4, 0, 0), HIDDEN);
        });
        edges.edge("5 NONE: a FAULT, with four PROGRAMS, too", x -> {
            for (int i = 0; i < 4; i++) {
                Due.program(x, "del " + i);
            }
            fault(x, PROGRAM, "del 9;", 6);
            edges.is("the last one as it was", x.step(3, 0, 1), 3);
        });
        edges.edge("5 a FAULT leaves no STEPS behind", x -> {
            fault(x, PROGRAM, "snap;snap;x", 10);
            edges.is("text(1)", Due.program(x, "del 7"), 0);
            edges.is("its STEP", x.step(0, 0, 0), 1);
            edges.is("no other", x.step(0, 1, 0), HIDDEN);
        });
    }

    // ---- promise 6
    private static void opening() {
        edges.edge("6 a WIDTH (3 .. 6), full leaves and one more", x -> {
            String[] full = {"[1 2 3]", "[1 2 3 4]", "[1 2 3 4 5]", "[1 2 3 4 5 6]"};
            String[] more = {"([1 2][3 4])", "([1 2 3][4 5])", "([1 2 3][4 5 6])", "([1 2 3 4][5 6 7])"};
            for (int width = 3; width <= 6; width++) {
                edges.is("wide", x.wide(width), width);
                edges.is("WIDTH", x.count(0), width);
                Due.map(x, Due.rising(1, width, 1));
                edges.keys(x, 0, full[width - 3]);
                Due.map(x, Due.rising(1, width + 1, 1));
                edges.keys(x, 1, more[width - 3]);
            }
        });
        edges.edge("6 NONE: out of bounds (STATUS 1, as it was)", x -> {
            Edges.three(x);
            x.build(1, 0);
            x.show(0);
            x.image();
            Due.tape(x, "1:1");
            for (int width : new int[] {LEAST, -1, 0, 2, 7, MOST}) {
                edges.refused("wide(" + width + ")", x, 1, y -> y.wide(width));
            }
            edges.is("the IMAGE, too", x.back(), 2);
        });
        edges.edge("6 OPEN: all MAPS are gone", x -> {
            Edges.three(x);
            edges.is("the same WIDTH, too", x.wide(3), 3);
            edges.is("held", x.count(1), 0);
            edges.is("LIVE", x.count(4), 0);
            for (int map = 0; map < 3; map++) {
                edges.is("about " + map, x.about(map, 0), HIDDEN);
            }
        });
        edges.edge("6 OPEN: room again for sixteen", x -> {
            x.text(MAP);
            Edges.crowd(x);
            x.wide(3);
            for (int i = 0; i < 16; i++) {
                edges.is("text", x.text(MAP), i);
            }
            edges.is("no seventeenth", x.text(MAP), NONE);
        });
        edges.edge("6 OPEN: BUILDERS are STALE", x -> {
            Edges.three(x);
            for (int builder = 0; builder < 4; builder++) {
                x.build(builder, 0);
            }
            x.wide(3);
            edges.is("not STALE", x.count(7), 0);
            for (int builder = 0; builder < 4; builder++) {
                int b = builder;
                edges.refused("lay", x, 2, y -> y.lay(b, 1, 1));
            }
        });
        edges.edge("6 OPEN: there is no IMAGE", x -> {
            Edges.three(x);
            x.image();
            x.wide(3);
            edges.refused("back()", x, Edges.NO_STATUS, WideMap::back);
            x.text(MAP);
            edges.refused("back() with a MAP", x, Edges.NO_STATUS, WideMap::back);
        });
        edges.edge("6 OPEN: a new IMAGE has none of the MAPS of before", x -> {
            Edges.three(x);
            x.image();
            x.wide(3);
            edges.is("image", x.image(), 0);
            edges.is("back", x.back(), 0);
            edges.is("held", x.count(1), 0);
            x.text(MAP);
            x.text(MAP);
            x.drop(0);
            edges.is("image", x.image(), 1);
            edges.is("back", x.back(), 1);
            edges.is("number 0", x.about(0, 0), HIDDEN);
            edges.is("number 2", x.about(2, 0), HIDDEN);
        });
        edges.edge("6 OPEN: numbers begin at 0, MADE is 0", x -> {
            Edges.three(x);
            x.wide(6);
            edges.is("given", x.count(2), 0);
            edges.is("MADE", x.count(3), 0);
            edges.is("no number is known", x.comesFrom(0, 0), NONE);
            edges.is("the first", x.text(MAP), 0);
            edges.is("no line of before", x.about(0, 5), NONE);
            edges.is("the second not given yet", x.comesFrom(0, 1), NONE);
            edges.is("MADE", x.count(3), 1);
        });
        edges.edge("6 OPEN: after the last number, too", x -> {
            x.text(MAP);
            Edges.spend(x, 0);
            x.wide(4);
            edges.is("the first", x.text(MAP), 0);
        });
    }

    private static void openingStays() {
        edges.edge("6 OPEN: PROGRAMS stay", x -> {
            Due.program(x, "del 5");
            x.wide(3);
            edges.is("PROGRAMS", x.count(5), 1);
            edges.is("STEP", x.step(0, 0, 1), 5);
            edges.is("the next one", Due.program(x, "snap"), 1);
        });
        edges.edge("6 OPEN: the TAPE stays", x -> {
            Due.tape(x, "1:2");
            x.wide(3);
            edges.is("bytes", x.count(6), 3);
            x.text(MAP);
            edges.looks(x, 0, "[1:2]");
        });
        edges.edge("6 OPEN: STATUS stays", x -> {
            x.drop(0);
            x.wide(0);
            x.wide(7);
            x.lay(0, 1, 1);
            x.wide(3);
            edges.is("0", x.status(0), 1);
            edges.is("1", x.status(1), 2);
            edges.is("2", x.status(2), 1);
        });
        edges.edge("6 OPEN: what was SHOWN latest stays", x -> {
            Due.map(x, "1:2");
            x.show(0);
            x.wide(3);
            edges.is("first", x.shown(0), '[');
            edges.is("last", x.shown(4), ']');
            edges.is("no more", x.shown(5), NONE);
        });
    }

    // ---- promise 32
    private static void steps() {
        edges.edge("32 its numbers (HIDDEN)", x -> {
            Due.program(x, "put 0 -999;del 999;add 1 999;cut 999 0;inc 5 4 -1;snap");
            int[][] all = {{0, 0, -999, HIDDEN}, {1, 999, HIDDEN, HIDDEN}, {2, 1, 999, HIDDEN}, {3, 999, 0, HIDDEN},
                {4, 5, 4, -1}, {5, HIDDEN, HIDDEN, HIDDEN}};
            for (int i = 0; i < all.length; i++) {
                for (int what = 0; what < 4; what++) {
                    edges.is("step(0, " + i + ", " + what + ")", x.step(0, i, what), all[i][what]);
                }
            }
        });
        edges.edge("32 HIDDEN: no such PROGRAM", x -> {
            for (int program : new int[] {LEAST, -1, 0, 1, 3, 4, MOST}) {
                edges.quiet("step(" + program + ", 0, 0)", x, HIDDEN, y -> y.step(program, 0, 0));
            }
            Due.program(x, "snap");
            edges.quiet("the next one", x, HIDDEN, y -> y.step(1, 0, 0));
        });
        edges.edge("32 HIDDEN: no such STEP", x -> {
            Due.program(x, "snap;del 1");
            for (int i : new int[] {LEAST, -1, 2, 15, 16, MOST}) {
                edges.quiet("step(0, " + i + ", 0)", x, HIDDEN, y -> y.step(0, i, 0));
            }
        });
        edges.edge("32 HIDDEN: no such what", x -> {
            Due.program(x, "inc 1 2 3;inc 4 5 6;inc 7 8 9");
            for (int what : new int[] {LEAST, -1, 4, 5, MOST}) {
                edges.quiet("step(0, 1, " + what + ")", x, HIDDEN, y -> y.step(0, 1, what));
            }
        });
    }
}
