/** Promises 1 to 8: a new object, THE TEXT, THE LAND, and what is asked of it. */
public final class LandTest {
    public static void main(String[] args) {
        newObject();
        letters();
        clearing();
        landsRead();
        faultsOfTokens();
        faultsOfItems();
        faultsAtTheEnd();
        faultsChangeNothing();
        landForgetsAll();
        cells();
        mothers();
        regiments();
        now();
        Check.end("LandTest");
    }

    private static void newObject() {
        BackMarch x = new BackMarch();
        Check.due("new: count(0)", x.count(0), 8);
        Check.due("new: count(1)", x.count(1), 8);
        for (int what = 2; what <= 5; what++) {
            Check.due("new: count(" + what + ")", x.count(what), 0);
        }
        for (int what = 0; what <= 3; what++) {
            Check.due("new: now(" + what + ")", x.now(what), 0);
        }
        for (int at = 0; at < 8; at++) {
            for (int y = 0; y < 8; y++) {
                for (int what = 0; what <= 2; what++) {
                    Check.due("new: cell", x.cell(10 * at + y, what), 0);
                }
            }
        }
        Check.due("new: mother(0, 0)", x.mother(0, 0), BackMarch.BAD);
        Check.due("new: regiment(0, 0)", x.regiment(0, 0), BackMarch.BAD);
        Check.due("new: undo()", x.undo(), BackMarch.STATE);
        Check.due("new: back(0)", x.back(0), BackMarch.STATE);
        Check.due("new: forget()", x.forget(), 0);
        Check.due("new: trace()", x.trace(), 0);
    }

    private static void letters() {
        BackMarch x = new BackMarch();
        Check.due("type(-1)", x.type(-1), BackMarch.BAD);
        Check.due("type(256)", x.type(256), BackMarch.BAD);
        Check.due("type(min)", x.type(Integer.MIN_VALUE), BackMarch.BAD);
        Check.due("type(max)", x.type(Integer.MAX_VALUE), BackMarch.BAD);
        Check.due("count(5) behind BAD", x.count(5), 0);
        Check.due("type(0)", x.type(0), 1);
        Check.due("type(255)", x.type(255), 2);
        for (int i = 3; i <= 120; i++) {
            Check.due("type(32)", x.type(32), i);
        }
        Check.due("type of a 121st", x.type(32), BackMarch.FULL);
        Check.due("BAD ahead of FULL", x.type(256), BackMarch.BAD);
        Check.due("count(5) of a full text", x.count(5), 120);
        Check.due("land() with letter 0", x.land(), -10);
    }

    private static void clearing() {
        BackMarch x = new BackMarch();
        Check.due("clear() of none", x.clear(), 0);
        Check.type(x, "m0 0;g1");
        Check.due("clear()", x.clear(), 7);
        Check.due("count(5)", x.count(5), 0);
        Check.due("clear() again", x.clear(), 0);
        Check.due("land() of none", x.land(), 0);
        Check.due("no mothers", x.count(2), 0);
        for (int i = 0; i < 120; i++) {
            x.type(32);
        }
        Check.due("clear() of a full text", x.clear(), 120);
        Check.due("type behind it", x.type('n'), 1);
    }

    private static void landsRead() {
        BackMarch x = new BackMarch();
        reads(x, "", 0);
        reads(x, "     ", 0);
        reads(x, "n1 1;", 1);
        Check.due("WIDE", x.count(0), 1);
        Check.due("HIGH", x.count(1), 1);
        reads(x, "n 3 8 ;", 1);
        Check.due("WIDE 3", x.count(0), 3);
        Check.due("HIGH 8", x.count(1), 8);
        reads(x, "  o  7 7  0 ; ", 1);
        Check.due("WIDE by itself", x.count(0), 8);
        Check.due("HIGH by itself", x.count(1), 8);
        Check.due("the fold", x.cell(77, 0), 1);
        reads(x, "n8 8;m7 7;g0 7 0;g7 0 9;o1 1 1;", 5);
        Check.due("MOTHERS", x.count(2), 1);
        Check.due("REGIMENTS", x.count(3), 2);
        Check.due("letters behind land()", x.count(5), 0);
        reads(x, "m0 0;m0 0;m0 0;m1 1;g0 0 3;g0 0 3;g0 0 0;g0 0 9;", 8);
        Check.due("four regiments at one", x.cell(0, 2), 15);
        reads(x, "o1 2 0;o1 2 1;o1 3 1;o1 3 0;", 4);
        Check.due("the later, a wall", x.cell(12, 0), 2);
        Check.due("the later, a fold", x.cell(13, 0), 1);
        reads(x, "m2 2;g3 3 0;o2 2 1;o3 3 1;", 4);
        Check.due("a mother on a wall", x.mother(0, 0), 22);
        Check.due("a regiment on a wall", x.regiment(0, 0), 33);
        reads(x, "m1 1;g1 2 0;m5 5;g1 3 1;", 4);
        Check.due("minds the mother told ahead", x.regiment(1, 1), 1);
    }

    private static void faultsOfTokens() {
        BackMarch x = new BackMarch();
        faults(x, "x", 0);
        faults(x, "  N1 1;", 2);
        faults(x, "n1\t1;", 2);
        faults(x, "n1 1;\n", 5);
        faults(x, "n1,1;", 2);
        faults(x, "n-1 1;", 1);
        faults(x, "n1 1:", 4);
        faults(x, "n/ 1;", 1);
        faults(x, "m" + (char) 160 + "0 0;", 1);
        faults(x, "m0 0" + (char) 255, 4);
        faults(x, "n100 1;", 1);
        faults(x, "n 99999999999999999999 1;", 2);
        faults(x, "n4294967297 1;", 1);
        faults(x, "n01 1;", 1);
        faults(x, "n1 001;", 3);
        faults(x, "m00 0;", 1);
        faults(x, "m0 00;", 3);
        faults(x, "o0 0 00;", 5);
        faults(x, "g0 0 09;", 5);
        faults(x, ";", 0);
        faults(x, "n1 1;;", 5);
        faults(x, "5", 0);
        faults(x, "100", 0);
        faults(x, "n1 1;1", 5);
        faults(x, "nn1 1;", 1);
        faults(x, "n1 1 1;", 5);
        faults(x, "n1m1;", 2);
        faults(x, "m0;", 2);
        faults(x, "m;", 1);
        faults(x, "o0 0;", 4);
        faults(x, "g0 0;", 4);
        faults(x, "m0 0 g0 0 0;", 5);
        faults(x, "m0 0 0;", 5);
        faults(x, "n18 8;", 1);
        faults(x, "n1 1;m0 0", 9);
    }

    private static void faultsOfItems() {
        BackMarch x = new BackMarch();
        faults(x, "n0 1;", 1);
        faults(x, "n9 1;", 1);
        faults(x, "n1 0;", 3);
        faults(x, "n1 9;", 3);
        faults(x, "n1 1;n1 1;", 5);
        faults(x, "o0 0 0; n1 1;", 8);
        faults(x, "m0 0;n1 1;", 5);
        faults(x, "g0 0 9;n1 1;", 7);
        faults(x, "o8 0 0;", 1);
        faults(x, "o0 8 0;", 3);
        faults(x, "o0 0 2;", 5);
        faults(x, "o0 0 9;", 5);
        faults(x, "m8 0;", 1);
        faults(x, "m0 8;", 3);
        faults(x, "g8 0 9;", 1);
        faults(x, "g0 8 9;", 3);
        faults(x, "n2 3;m2 0;", 6);
        faults(x, "n2 3;m0 3;", 8);
        faults(x, "n3 2;o2 2 0;", 8);
        faults(x, "g0 0 0;", 5);
        faults(x, "g0 0 0;m0 0;", 5);
        faults(x, "m0 0;g0 0 1;", 10);
        faults(x, "m0 0;m0 0;m0 0;m0 0;g0 0 4;", 25);
        faults(x, "m0 0;m0 0;m0 0;m0 0;g0 0 8;", 25);
        faults(x, "m0 0;g0 0 10;", 10);
        faults(x, "m0 0;m0 0;m0 0;m0 0;m0 0;", 20);
        faults(x, "g0 0 9;g0 0 9;g0 0 9;g0 0 9;  g", 30);
        faults(x, "m9 9;x", 1);
    }

    private static void faultsAtTheEnd() {
        BackMarch x = new BackMarch();
        faults(x, "n", 1);
        faults(x, "n1", 2);
        faults(x, "n1 1", 4);
        faults(x, "n1 1   ", 7);
        faults(x, "  m ", 4);
        faults(x, "m0 0;o1 1 1", 11);
        faults(x, "m0 0;g1 1 0 ", 12);
        faults(x, "g0", 2);
        StringBuilder full = new StringBuilder("m0 0");
        while (full.length() < 120) {
            full.append(' ');
        }
        faults(x, full.toString(), 120);
        full.setCharAt(119, ';');
        reads(x, full.toString(), 1);
    }

    private static void faultsChangeNothing() {
        BackMarch x = Check.landOf("n5 4;o1 1 0;o2 2 1;m0 0;g3 3 0;");
        x.step();
        x.keep(1);
        x.watches(0, 2, 3);
        int known = x.now(0);
        int at = x.regiment(0, 0);
        Check.type(x, "n2 2;o0 0 1;m1 1;m1 1;g0 0 1;g0 0 0;?");
        int length = x.count(5);
        Check.due("land() with a fault", x.land(), -10 - (length - 1));
        Check.due("the text stays", x.count(5), length);
        Check.due("the fault again", x.land(), -10 - (length - 1));
        Check.due("WIDE stays", x.count(0), 5);
        Check.due("HIGH stays", x.count(1), 4);
        Check.due("MOTHERS stay", x.count(2), 1);
        Check.due("REGIMENTS stay", x.count(3), 1);
        Check.due("WATCHED stays", x.count(4), 1);
        Check.due("the fold stays", x.cell(11, 0), 1);
        Check.due("the wall stays", x.cell(22, 0), 2);
        Check.due("no wall comes", x.cell(0, 0), 0);
        Check.due("the mother stays", x.mother(0, 0), 0);
        Check.due("the regiment stays", x.regiment(0, 0), at);
        Check.due("KNOWN stays", x.now(0), known);
        Check.due("the image stays", x.back(1), known);
        Check.due("clear() behind a fault", x.clear(), length);
    }

    private static void landForgetsAll() {
        BackMarch x = Check.landOf("n5 4;o1 1 0;o2 2 1;m0 0;m1 1;g3 3 0;g0 3 9;");
        x.rate(1, 0);
        x.deals(0, 1);
        x.step();
        x.leads(1, 1);
        x.keep(0);
        x.keep(1);
        x.watches(0, 2, 3);
        reads(x, "g3 3 9;", 1);
        Check.due("WIDE anew", x.count(0), 8);
        Check.due("HIGH anew", x.count(1), 8);
        Check.due("MOTHERS anew", x.count(2), 0);
        Check.due("REGIMENTS anew", x.count(3), 1);
        Check.due("WATCHED anew", x.count(4), 0);
        Check.due("the fold is gone", x.cell(11, 0), 0);
        Check.due("the wall is gone", x.cell(22, 0), 0);
        Check.due("KNOWN anew", x.now(0), 1);
        Check.due("KNOWN at first", x.cell(33, 1), 1);
        Check.due("MIRRORS anew", x.now(1), 0);
        Check.due("DOWN anew", x.now(2), 0);
        Check.due("UNDONE anew", x.now(3), 0);
        Check.due("undo() anew", x.undo(), BackMarch.STATE);
        Check.due("back(0) anew", x.back(0), BackMarch.STATE);
        Check.due("back(1) anew", x.back(1), BackMarch.STATE);
        Check.due("the trace goes on", x.trace(), 11);
        reads(x, "", 0);
        Check.due("nothing is told", x.count(3), 0);
        Check.due("nothing is KNOWN", x.now(0), 0);
    }

    private static void cells() {
        BackMarch x = Check.landOf("n3 2;o0 1 0;o2 0 1;m0 0;g1 1 0;g1 1 9;g0 0 9;");
        Check.due("plain", x.cell(0, 0), 0);
        Check.due("a fold", x.cell(1, 0), 1);
        Check.due("a wall", x.cell(20, 0), 2);
        Check.due("known", x.cell(11, 1), 1);
        Check.due("known too", x.cell(0, 1), 1);
        Check.due("not known", x.cell(10, 1), 0);
        Check.due("the last cell", x.cell(21, 1), 0);
        Check.due("two there", x.cell(11, 2), 3);
        Check.due("one there", x.cell(0, 2), 4);
        Check.due("none there", x.cell(21, 2), 0);
        int[] bad = {-1, -10, 2, 3, 9, 12, 30, 31, 77, 80, 100, Integer.MIN_VALUE, Integer.MAX_VALUE};
        for (int cell : bad) {
            Check.due("cell(" + cell + ", 0)", x.cell(cell, 0), BackMarch.BAD);
        }
        Check.due("cell(0, -1)", x.cell(0, -1), BackMarch.BAD);
        Check.due("cell(0, 3)", x.cell(0, 3), BackMarch.BAD);
        x.step();
        Check.due("left: known", x.cell(11, 1), 1);
        Check.due("come to: known", x.cell(21, 1), 1);
        Check.due("left by one", x.cell(11, 2), 2);
        Check.due("come to by one", x.cell(21, 2), 1);
    }

    private static void mothers() {
        BackMarch x = Check.landOf("m3 4;m7 0;g1 1 1;g2 2 0;g3 3 1;g4 4 9;");
        Check.due("mother(0, 0)", x.mother(0, 0), 34);
        Check.due("mother(1, 0)", x.mother(1, 0), 70);
        Check.due("mother(0, 1)", x.mother(0, 1), 2);
        Check.due("mother(1, 1)", x.mother(1, 1), 5);
        Check.due("mother(2, 0)", x.mother(2, 0), BackMarch.BAD);
        Check.due("mother(9, 1)", x.mother(9, 1), BackMarch.BAD);
        Check.due("mother(-1, 0)", x.mother(-1, 0), BackMarch.BAD);
        Check.due("mother(0, 2)", x.mother(0, 2), BackMarch.BAD);
        Check.due("mother(0, -1)", x.mother(0, -1), BackMarch.BAD);
    }

    private static void regiments() {
        BackMarch x = Check.landOf("o6 5 0;m3 5;m3 6;g5 5 0;g1 2 9;g2 3 1;");
        x.deals(2, 1);
        x.step();
        Check.due("regiment(0, 0)", x.regiment(0, 0), 65);
        Check.due("regiment(0, 1)", x.regiment(0, 1), 0);
        Check.due("regiment(0, 2)", x.regiment(0, 2), 0);
        Check.due("regiment(0, 3)", x.regiment(0, 3), 1);
        Check.due("regiment(1, 0)", x.regiment(1, 0), 12);
        Check.due("regiment(1, 1)", x.regiment(1, 1), BackMarch.NONE);
        Check.due("regiment(2, 0)", x.regiment(2, 0), 22);
        Check.due("regiment(2, 1)", x.regiment(2, 1), 1);
        Check.due("regiment(2, 2)", x.regiment(2, 2), 1);
        Check.due("regiment(2, 3)", x.regiment(2, 3), 0);
        Check.due("regiment(3, 0)", x.regiment(3, 0), BackMarch.BAD);
        Check.due("regiment(-1, 0)", x.regiment(-1, 0), BackMarch.BAD);
        Check.due("regiment(0, 4)", x.regiment(0, 4), BackMarch.BAD);
        Check.due("regiment(0, -1)", x.regiment(0, -1), BackMarch.BAD);
    }

    private static void now() {
        BackMarch x = Check.landOf("o1 0 0;m0 0;m0 7;g0 0 9;g1 7 1;g0 0 9;");
        Check.due("known at first", x.now(0), 2);
        x.leads(2, 1);
        x.deals(0, 1);
        x.deals(1, 1);
        x.step();
        Check.due("now(0)", x.now(0), 4);
        Check.due("now(1)", x.now(1), 3);
        Check.due("now(2)", x.now(2), 0);
        Check.due("now(3)", x.now(3), 4);
        x.undo();
        Check.due("now(0) undone", x.now(0), 3);
        Check.due("now(2) undone", x.now(2), 4);
        Check.due("now(3) undone", x.now(3), 3);
        Check.due("now(-1)", x.now(-1), BackMarch.BAD);
        Check.due("now(4)", x.now(4), BackMarch.BAD);
    }

    private static void reads(BackMarch x, String text, int items) {
        Check.due("land of \"" + text + "\"", Check.read(x, text), items);
    }

    private static void faults(BackMarch x, String text, int place) {
        Check.due("fault of \"" + text + "\"", Check.read(x, text), -10 - place);
    }
}
