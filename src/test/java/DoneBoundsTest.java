/** The bounds that section 2 of the document names, promises 9 to 14: a method for each sentence. */
public final class DoneBoundsTest {
    public static void main(String[] args) {
        stepOfNobody();
        landOfOneCell();
        asMuchAlongX();
        neitherDiffers();
        edgesWithoutMirror();
        notFreeWithoutMirror();
        edgesWithMirror();
        lanesWithMirror();
        getsUpAndStays();
        mindsNobody();
        onlyThoseWhoGo();
        walksToTheEdges();
        walksPastRegiments();
        seenOffAsItIs();
        dealtAsItIs();
        ledWhenNotFree();
        ledWhenItMayNot();
        undoOfNone();
        tenAreKnown();
        tenOfAllSorts();
        olderOnesAreLost();
        refusedOnesAreNone();
        otherCallsAreNone();
        undoneAndDoneAnew();
        allCellsKnown();
        knownIsUndone();
        Check.end("DoneBoundsTest");
    }

    private static void stepOfNobody() {
        BackMarch x = new BackMarch();
        Check.due("step() of no REGIMENTS", x.step(), 0);
        Check.due("it may be UNDONE", x.now(3), 1);
        x = Check.landOf("m0 0;m7 7;");
        Check.due("step() of MOTHERS alone", x.step(), 0);
    }

    private static void landOfOneCell() {
        for (int minded = 0; minded <= 1; minded++) {
            BackMarch x = Check.landOf("n1 1;m0 0;g0 0 " + (minded == 0 ? 9 : 0) + ";g0 0 9;");
            for (int mirror = 0; mirror <= 1; mirror++) {
                Check.due("step() in one cell", x.step(), 0);
                for (int side = 0; side <= 3; side++) {
                    Check.due("walks in one cell", x.walks(0, side), BackMarch.STATE);
                    Check.due("leads in one cell", x.leads(0, side), BackMarch.STATE);
                }
                Check.due("where", x.where(0, 40), 0);
                Check.due("KNOWN", x.now(0), 1);
                x.deals(0, 1);
            }
        }
    }

    // if x of both differ as much as y, or more, one cell along x, else one along y
    private static void asMuchAlongX() {
        for (int dx = -3; dx <= 2; dx++) {
            for (int dy = -3; dy <= 2; dy++) {
                BackMarch x = Check.landOf("m4 4;g" + (4 + dx) + " " + (4 + dy) + " 0;");
                boolean along = Math.abs(dx) >= Math.abs(dy);
                int due = along ? 44 + 10 * (dx + Integer.signum(dx)) + dy : 44 + 10 * dx + dy + Integer.signum(dy);
                x.step();
                Check.due("from " + dx + ", " + dy + " of her", x.regiment(0, 0), due);
            }
        }
    }

    // (if neither differs: it stays)
    private static void neitherDiffers() {
        BackMarch x = Check.landOf("m3 3;g3 3 0;");
        Check.due("stays", x.step(), 0);
        x.deals(0, 1);
        Check.due("stays with a MIRROR", x.step(), 0);
        Check.due("where it stays", x.regiment(0, 0), 33);
        Check.due("stays for good", x.where(0, 40), 33);
        x.walks(0, 0);
        Check.due("goes when she goes", x.step(), 1);
    }

    // Without a MIRROR it goes there, if that is FREE (of THE LAND)
    private static void edgesWithoutMirror() {
        String[] texts = {"m1 3;g0 3 0;", "m6 3;g7 3 0;", "m3 1;g3 0 0;", "m3 6;g3 7 0;",
            "n4 4;m2 1;g3 1 0;", "n4 4;m1 2;g1 3 0;", "m1 1;g0 0 0;", "m6 6;g7 7 0;", "m6 1;g7 0 0;", "m1 6;g0 7 0;"};
        for (String text : texts) {
            BackMarch x = Check.landOf(text);
            int at = x.regiment(0, 0);
            Check.due("at the edge of " + text, x.step(), 0);
            Check.due("stays at the edge of " + text, x.regiment(0, 0), at);
        }
    }

    // (FREE: no WALL, and no REGIMENT is there)
    private static void notFreeWithoutMirror() {
        Check.due("a WALL", Check.landOf("o5 3 1;m3 3;g4 3 0;").step(), 0);
        Check.due("a REGIMENT", Check.landOf("m3 3;g4 3 0;g5 3 9;").step(), 0);
        Check.due("a MOTHER", Check.landOf("m3 3;m5 3;g4 3 0;").step(), 1);
        Check.due("a FOLD", Check.landOf("o5 3 0;m3 3;g4 3 0;").step(), 1);
        BackMarch x = Check.landOf("o5 3 1;m3 3;g4 3 0;");
        x.step();
        Check.due("it does not go across", x.regiment(0, 0), 43);
        // A REGIMENT that is DOWN is in the way, too.
        x = Check.landOf("o5 3 0;m2 3;g4 3 0;g5 2 9;");
        x.leads(1, 3);
        Check.due("DOWN", x.now(2), 2);
        Check.due("DOWN in the way", x.step(), 0);
        Check.due("where it stays", x.regiment(0, 0), 43);
    }

    // across: 1 less, if that is FREE and no FOLD; else 1 more, likewise; else it stays
    private static void edgesWithMirror() {
        mirrorGoes("m1 1;g0 0 0;", 1);
        mirrorGoes("m6 6;g7 7 0;", 76);
        mirrorGoes("m1 6;g0 7 0;", 6);
        mirrorGoes("m6 1;g7 0 0;", 71);
        mirrorGoes("m0 3;g0 7 0;", 17);
        mirrorGoes("m7 3;g7 7 0;", 67);
        mirrorGoes("m0 3;g0 0 0;", 10);
        mirrorGoes("m7 3;g7 0 0;", 60);
        mirrorGoes("n3 3;m1 1;g2 2 0;", 21);
    }

    private static void lanesWithMirror() {
        mirrorGoes("n8 1;m6 0;g7 0 0;", 70);
        mirrorGoes("n8 1;m1 0;g0 0 0;", 0);
        mirrorGoes("n1 8;m0 6;g0 7 0;", 7);
        mirrorGoes("n1 8;m0 1;g0 0 0;", 0);
        mirrorGoes("n8 1;o5 0 0;m3 0;g4 0 0;", 40);
        mirrorGoes("o5 3 1;o4 2 0;o4 4 0;m3 3;g4 3 0;", 43);
        mirrorGoes("o3 5 1;o2 4 0;o4 4 1;m3 3;g3 4 0;", 34);
        mirrorGoes("o5 3 1;m3 3;g4 3 0;g4 2 9;g4 4 9;", 43);
        mirrorGoes("o5 3 1;m3 3;m4 2;g4 3 0;", 42);
    }

    private static void mirrorGoes(String text, int cell) {
        BackMarch x = Check.landOf(text);
        int at = x.regiment(0, 0);
        x.deals(0, 1);
        Check.due("step() with a MIRROR in " + text, x.step(), at == cell ? 0 : 1);
        Check.due("with a MIRROR in " + text, x.regiment(0, 0), cell);
        Check.due("nobody DOWN in " + text, x.now(2), 0);
    }

    // one that is DOWN gets up, and stays
    private static void getsUpAndStays() {
        BackMarch x = Check.landOf("o2 0 0;o3 0 0;m0 0;g1 0 0;g1 5 9;");
        Check.due("comes to be DOWN", x.step(), 1);
        Check.due("DOWN", x.now(2), 1);
        Check.due("gets up and stays", x.step(), 0);
        Check.due("where it stays", x.regiment(0, 0), 20);
        Check.due("up", x.now(2), 0);
        Check.due("into the next", x.step(), 1);
        Check.due("DOWN in the next", x.regiment(0, 3), 1);
        x.seesOff(0, 9);
        Check.due("gets up with nobody", x.step(), 0);
        Check.due("up with nobody", x.regiment(0, 3), 0);
    }

    // One that MINDS nobody stays.
    private static void mindsNobody() {
        BackMarch x = Check.landOf("m0 0;g1 0 9;g5 5 9;");
        x.deals(1, 1);
        Check.due("stay", x.step(), 0);
        Check.due("for good", x.where(0, 40), 10);
        Check.due("KNOWN", x.now(0), 2);
    }

    // step: how many go to another cell
    private static void onlyThoseWhoGo() {
        BackMarch x = Check.landOf("m0 0;g1 0 0;g1 1 0;g1 2 0;g0 0 0;");
        Check.due("three of four", x.step(), 3);
        x = Check.landOf("m0 0;g1 0 0;g2 2 0;g1 4 0;g0 1 0;");
        Check.due("four of four", x.step(), 4);
    }

    // walks: if that is of THE LAND and no WALL
    private static void walksToTheEdges() {
        BackMarch x = Check.landOf("n2 2;m0 0;");
        int[] sides = {1, 3, 0, 2};
        int[] cells = {10, 11, 1, 0};
        for (int i = 0; i < 4; i++) {
            Check.due("walks to side " + sides[i], x.walks(0, sides[i]), cells[i]);
            Check.due("and off THE LAND", x.walks(0, sides[i]), BackMarch.STATE);
            Check.due("her cell", x.mother(0, 0), cells[i]);
        }
        Check.due("four of them", x.now(3), 4);
        x = Check.landOf("o2 3 1;o4 3 1;o3 2 1;o3 4 1;m3 3;");
        for (int side = 0; side <= 3; side++) {
            Check.due("into a WALL, side " + side, x.walks(0, side), BackMarch.STATE);
        }
        x = Check.landOf("o3 3 1;o4 3 0;m3 3;m7 7;");
        Check.due("from a WALL into a FOLD", x.walks(0, 1), 43);
        Check.due("x 8", x.walks(1, 1), BackMarch.STATE);
        Check.due("y 8", x.walks(1, 3), BackMarch.STATE);
    }

    private static void walksPastRegiments() {
        BackMarch x = Check.landOf("m3 3;m4 3;g4 3 9;");
        Check.due("to a REGIMENT and a MOTHER", x.walks(0, 1), 43);
        Check.due("KNOWN as ever", x.now(0), 1);
        Check.due("not KNOWN", x.cell(33, 1), 0);
    }

    // seesOff: STATE: it is so
    private static void seenOffAsItIs() {
        BackMarch x = Check.landOf("m0 0;m1 1;m2 2;m3 3;g5 5 9;");
        Check.due("nobody, as it is", x.seesOff(0, 9), BackMarch.STATE);
        int was = BackMarch.NONE;
        for (int m = 0; m < 4; m++) {
            Check.due("seesOff(0, " + m + ")", x.seesOff(0, m), was);
            Check.due("seesOff(0, " + m + ") as it is", x.seesOff(0, m), BackMarch.STATE);
            Check.due("who MINDS her", x.mother(m, 1), 1);
            was = m;
        }
        Check.due("four of them", x.now(3), 4);
        Check.due("nobody at last", x.seesOff(0, 9), 3);
        Check.due("who MINDS her then", x.mother(3, 1), 0);
    }

    // deals: STATE: it is so
    private static void dealtAsItIs() {
        BackMarch x = Check.landOf("g0 0 9;g1 1 9;g2 2 9;g3 3 9;");
        for (int g = 0; g < 4; g++) {
            Check.due("none, as it is", x.deals(g, 0), BackMarch.STATE);
            Check.due("MIRRORS", x.deals(g, 1), g + 1);
            Check.due("one, as it is", x.deals(g, 1), BackMarch.STATE);
        }
        Check.due("all have them", x.now(1), 15);
        for (int g = 0; g < 4; g++) {
            Check.due("taken", x.deals(g, 0), 3 - g);
        }
        Check.due("none has", x.now(1), 0);
        Check.due("eight of them", x.now(3), 8);
    }

    // leads: if that is FREE
    private static void ledWhenNotFree() {
        BackMarch x = Check.landOf("o2 3 1;o3 4 1;m0 0;g3 3 9;g4 3 9;g3 2 0;");
        for (int side = 0; side <= 3; side++) {
            Check.due("to what is not FREE, side " + side, x.leads(0, side), BackMarch.STATE);
        }
        int[] corners = {0, 70, 7, 77};
        for (int corner : corners) {
            x = Check.landOf("g" + corner / 10 + " " + corner % 10 + " 9;");
            Check.due("off at x, corner " + corner, x.leads(0, corner < 10 ? 0 : 1), BackMarch.STATE);
            Check.due("off at y, corner " + corner, x.leads(0, corner % 10 == 0 ? 2 : 3), BackMarch.STATE);
        }
    }

    // leads: a REGIMENT that MINDS nobody, is not DOWN
    private static void ledWhenItMayNot() {
        BackMarch x = Check.landOf("o1 0 0;m7 7;g0 0 9;g4 4 0;");
        Check.due("MINDS a MOTHER", x.leads(1, 0), BackMarch.STATE);
        Check.due("into a FOLD", x.leads(0, 1), 10);
        Check.due("is DOWN", x.leads(0, 1), BackMarch.STATE);
        x.deals(0, 1);
        Check.due("is DOWN, with a MIRROR", x.leads(0, 1), BackMarch.STATE);
        x.step();
        Check.due("is up", x.leads(0, 1), 20);
        Check.due("with a MIRROR into a FOLD", x.leads(0, 0), 10);
        Check.due("is not DOWN", x.leads(0, 0), 0);
    }

    // undo: STATE: none
    private static void undoOfNone() {
        BackMarch x = new BackMarch();
        Check.due("of none", x.undo(), BackMarch.STATE);
        x.step();
        Check.due("of one", x.undo(), 0);
        Check.due("of none again", x.undo(), BackMarch.STATE);
        Check.due("none may be", x.now(3), 0);
    }

    // 10 are known
    private static void tenAreKnown() {
        BackMarch x = Check.landOf("m0 0;g1 0 0;");
        for (int i = 1; i <= 12; i++) {
            x.step();
            Check.due("so many may be UNDONE", x.now(3), Math.min(i, 10));
        }
        for (int left = 9; left >= 0; left--) {
            Check.due("undo()", x.undo(), left);
        }
        Check.due("an eleventh", x.undo(), BackMarch.STATE);
        Check.due("where it is", x.regiment(0, 0), 30);
    }

    // the latest step(), walks(), seesOff(), deals(), leads()
    private static void tenOfAllSorts() {
        BackMarch x = Check.landOf("o4 0 0;m0 0;m7 7;g1 0 0;g7 0 9;");
        x.step();
        x.step();
        x.walks(0, 1);
        x.seesOff(0, 1);
        x.deals(0, 1);
        x.leads(1, 3);
        x.step();
        x.walks(0, 3);
        x.seesOff(0, 9);
        x.deals(0, 0);
        x.leads(1, 3);
        Check.due("ten of eleven", x.now(3), 10);
        Check.due("of leads", x.undo(), 9);
        Check.due("led back", x.regiment(1, 0), 71);
        Check.due("of deals", x.undo(), 8);
        Check.due("has a MIRROR", x.regiment(0, 2), 1);
        Check.due("of seesOff", x.undo(), 7);
        Check.due("MINDS", x.regiment(0, 1), 1);
        Check.due("of walks", x.undo(), 6);
        Check.due("her cell", x.mother(0, 0), 10);
        Check.due("of step", x.undo(), 5);
        Check.due("stepped back", x.regiment(0, 0), 30);
        Check.due("of leads", x.undo(), 4);
        Check.due("led back to the first", x.regiment(1, 0), 70);
        Check.due("of deals", x.undo(), 3);
        Check.due("has none", x.now(1), 0);
        Check.due("of seesOff", x.undo(), 2);
        Check.due("MINDS the first", x.regiment(0, 1), 0);
        Check.due("of walks", x.undo(), 1);
        Check.due("her first cell", x.mother(0, 0), 0);
        Check.due("of step", x.undo(), 0);
        Check.due("the first step stays", x.regiment(0, 0), 20);
        Check.due("no more", x.undo(), BackMarch.STATE);
    }

    // older ones are lost
    private static void olderOnesAreLost() {
        for (int calls = 11; calls <= 45; calls++) {
            BackMarch x = Check.landOf("n8 8;m0 0;");
            int[] cells = new int[calls + 1];
            for (int i = 1; i <= calls; i++) {
                cells[i] = x.walks(0, (i + 13) % 14 < 7 ? 1 : 0);
            }
            for (int back = 1; back <= 10; back++) {
                x.undo();
                Check.due("undone " + back + " of " + calls, x.mother(0, 0), cells[calls - back]);
            }
            Check.due("the older of " + calls, x.undo(), BackMarch.STATE);
        }
    }

    // that was not refused
    private static void refusedOnesAreNone() {
        BackMarch x = Check.landOf("n2 1;m0 0;g1 0 0;");
        x.walks(0, 0);
        x.walks(1, 0);
        x.walks(0, 4);
        x.seesOff(0, 0);
        x.seesOff(0, 1);
        x.seesOff(1, 9);
        x.deals(0, 0);
        x.deals(0, 2);
        x.deals(1, 1);
        x.leads(0, 0);
        x.leads(0, 9);
        x.leads(1, 0);
        x.undo();
        Check.due("none", x.now(3), 0);
        x.walks(0, 1);
        x.walks(0, 1);
        Check.due("one", x.now(3), 1);
        Check.due("is UNDONE", x.undo(), 0);
        Check.due("her cell", x.mother(0, 0), 0);
    }

    private static void otherCallsAreNone() {
        BackMarch x = Check.landOf("m0 0;g1 0 0;");
        x.step();
        x.type('n');
        x.clear();
        x.rate(3, 0);
        x.keep(0);
        x.watches(0, 1, 20);
        x.forget();
        x.where(0, 40);
        x.wave(0, 70, 20);
        x.deal(1, 20);
        x.type('?');
        x.land();
        Check.due("one may be UNDONE", x.now(3), 1);
        Check.due("the step", x.undo(), 0);
        Check.due("where it was", x.regiment(0, 0), 10);
    }

    private static void undoneAndDoneAnew() {
        BackMarch x = Check.landOf("m0 0;g0 7 9;");
        for (int round = 0; round < 20; round++) {
            Check.due("done", x.walks(0, 1), 10);
            Check.due("done", x.walks(0, 3), 11);
            Check.due("undone", x.undo(), 1);
            Check.due("done otherwise", x.walks(0, 1), 20);
            Check.due("undone", x.undo(), 1);
            Check.due("undone", x.undo(), 0);
            Check.due("her cell", x.mother(0, 0), 0);
        }
        Check.due("none", x.undo(), BackMarch.STATE);
    }

    // KNOWN are cells on which a REGIMENT is, or was
    private static void allCellsKnown() {
        BackMarch x = Check.landOf("g0 0 9;");
        Check.due("one at first", x.now(0), 1);
        int known = 1;
        for (int column = 0; column < 8; column++) {
            for (int i = 1; i < 8; i++) {
                x.leads(0, column % 2 == 0 ? 3 : 2);
                known++;
                Check.due("KNOWN", x.now(0), known);
            }
            if (column < 7) {
                x.leads(0, 1);
                known++;
            }
        }
        Check.due("all KNOWN", x.now(0), 64);
        Check.due("at the end", x.regiment(0, 0), 70);
        Check.due("the BAND's rate", x.rate(5, 0), 71);
        Check.due("kept", x.keep(1), 64);
        x.leads(0, 0);
        Check.due("no more than all", x.now(0), 64);
        Check.due("back", x.back(1), 64);
    }

    private static void knownIsUndone() {
        BackMarch x = Check.landOf("m0 0;g1 0 0;g1 0 9;");
        x.step();
        Check.due("KNOWN", x.now(0), 2);
        x.undo();
        Check.due("KNOWN as ahead of it", x.now(0), 1);
        Check.due("not the cell it went to", x.cell(20, 1), 0);
        Check.due("the cell it came from", x.cell(10, 1), 1);
    }
}
