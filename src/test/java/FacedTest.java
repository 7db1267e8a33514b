/** Promises 21 to 24: what is WATCHED, whom a regiment faces by it, at which step to look. */
public final class FacedTest {
    public static void main(String[] args) {
        watching();
        facing();
        facingFromNow();
        looking();
        Check.end("FacedTest");
    }

    private static void watching() {
        BackMarch x = Check.landOf("n4 4;o1 1 1;m0 0;g2 2 0;g3 3 9;");
        Check.due("the first", x.watches(0, 0, 0), 1);
        Check.due("a wall, too", x.watches(1, 20, 11), 2);
        Check.due("watches(2, 0, 0)", x.watches(2, 0, 0), BackMarch.BAD);
        Check.due("watches(-1, 0, 0)", x.watches(-1, 0, 0), BackMarch.BAD);
        Check.due("watches(0, 21, 0)", x.watches(0, 21, 0), BackMarch.BAD);
        Check.due("watches(0, -1, 0)", x.watches(0, -1, 0), BackMarch.BAD);
        Check.due("watches(0, 0, 4)", x.watches(0, 0, 4), BackMarch.BAD);
        Check.due("watches(0, 0, -1)", x.watches(0, 0, -1), BackMarch.BAD);
        Check.due("count(4)", x.count(4), 2);
        for (int i = 3; i <= 6; i++) {
            Check.due("watches", x.watches(0, 1, 1), i);
        }
        Check.due("a seventh", x.watches(0, 1, 1), BackMarch.FULL);
        Check.due("BAD ahead of FULL", x.watches(0, 21, 1), BackMarch.BAD);
        Check.due("forget()", x.forget(), 6);
        Check.due("forget() again", x.forget(), 0);
        Check.due("count(4) then", x.count(4), 0);
        Check.due("the first anew", x.watches(0, 0, 0), 1);
    }

    private static void facing() {
        BackMarch x = Check.landOf("m0 3;m3 0;m7 3;m3 7;g3 3 0;g5 5 9;");
        Check.due("nothing watched", x.faced(0), 15);
        Check.due("nothing watched of nobody's", x.faced(1), 15);
        Check.due("faced(2)", x.faced(2), BackMarch.BAD);
        Check.due("faced(-1)", x.faced(-1), BackMarch.BAD);
        x.watches(1, 1, 65);
        Check.due("of another one", x.faced(0), 15);
        Check.due("of itself", x.faced(1), 9);
        x.watches(0, 1, 43);
        Check.due("to x more", x.faced(0), 1);
        x.watches(0, 0, 33);
        Check.due("and where it is", x.faced(0), 1);
        x.watches(0, 2, 33);
        Check.due("and what cannot be", x.faced(0), 0);
        x.forget();
        x.watches(0, 20, 30);
        Check.due("far", x.faced(0), 8);
        x.forget();
        x.watches(0, 0, 34);
        Check.due("where it is not", x.faced(0), 0);
        Check.due("without mothers", Check.landOf("g0 0 9;").faced(0), 0);
        // Others go as they would, and stand in the way.
        x = Check.landOf("n8 1;m0 0;m7 0;g3 0 0;g4 0 9;");
        x.watches(0, 3, 30);
        Check.due("held up", x.faced(0), 1);
        x.forget();
        x.watches(0, 1, 20);
        Check.due("not held up", x.faced(0), 2);
    }

    private static void facingFromNow() {
        BackMarch x = Check.landOf("o4 3 0;m0 3;m7 3;g3 3 0;");
        x.watches(0, 1, 43);
        Check.due("ahead of the step", x.faced(0), 1);
        x.step();
        Check.due("down: whoever it is", x.faced(0), 3);
        x.step();
        Check.due("up: nobody", x.faced(0), 0);
        x.undo();
        Check.due("undone", x.faced(0), 3);
        Check.due("watched still", x.count(4), 1);
        Check.due("look from down", x.look(0), 2);
        x.keep(0);
        x.back(0);
        Check.due("watched behind back()", x.count(4), 1);
    }

    private static void looking() {
        BackMarch x = Check.landOf("m0 3;m3 0;m7 3;m3 7;g3 3 0;g5 5 9;");
        Check.due("four ways", x.look(0), 1);
        Check.due("look(2)", x.look(2), BackMarch.BAD);
        Check.due("look(-1)", x.look(-1), BackMarch.BAD);
        x.watches(0, 1, 43);
        Check.due("one can be", x.look(0), BackMarch.NONE);
        x.watches(0, 1, 33);
        Check.due("none can be", x.look(0), BackMarch.NONE);
        Check.due("one mother", Check.landOf("m0 0;g1 1 0;").look(0), BackMarch.NONE);
        Check.due("no mothers", Check.landOf("g1 1 9;").look(0), BackMarch.NONE);
        // Both of one way for good: the lowest.
        Check.due("never apart", Check.landOf("m0 3;m1 3;g3 3 0;").look(0), 0);
        // Away from 0: along x; from 1: along y behind one step.
        x = Check.landOf("m0 3;m1 2;g3 4 0;");
        Check.due("apart never so far", x.look(0), 0);
        // Three mothers: two apart at 1, all three apart later only.
        x = Check.landOf("o4 3 0;m0 3;m2 3;m7 3;g3 3 0;");
        Check.due("the least that can be", x.look(0), 1);
        // The greatest crowd counts, not how many cells there are.
        x = Check.landOf("m3 0;m0 3;m0 4;m3 7;g3 3 0;");
        Check.due("pairs", x.look(0), 1);
        // Apart again at one cell: the lowest step at which they are apart.
        x = Check.landOf("n3 1;m0 0;m2 0;g1 0 0;");
        Check.due("two", x.look(0), 1);
        x.step();
        Check.due("at the edge", x.look(0), 0);
        // A long look, found by search: the model says the same.
        x = Check.landOf("m2 6;m4 2;m4 4;m6 5;g7 4 3;g4 3 3;g7 0 3;g0 6 3;o1 4 1;o4 1 0;o3 7 1;o3 6 0;o2 3 0;"
                + "o5 6 0;o3 3 0;o6 5 0;o5 6 0;o1 3 0;");
        for (int g = 0; g < 4; g++) {
            x.deals(g, 1);
        }
        Check.due("behind 20 steps", x.look(3), 20);
        x.step();
        Check.due("behind 19 steps", x.look(3), 19);
    }
}
