/** Promises 9 to 14: steps, mothers who walk, regiments seen off, dealt mirrors, led, all undone. */
public final class DoneTest {
    public static void main(String[] args) {
        stepsAway();
        stepsBlocked();
        stepsInOrder();
        stepsIntoFolds();
        stepsWithMirrors();
        stepsOfNobodys();
        walking();
        seeingOff();
        dealing();
        leading();
        undoing();
        undoingTen();
        Check.end("DoneTest");
    }

    private static void stepsAway() {
        goesFrom("m3 3;g4 3 0;", 53);
        goesFrom("m3 3;g2 3 0;", 13);
        goesFrom("m3 3;g3 4 0;", 35);
        goesFrom("m3 3;g3 2 0;", 31);
        goesFrom("m3 3;g4 4 0;", 54);
        goesFrom("m3 3;g2 2 0;", 12);
        goesFrom("m3 3;g4 2 0;", 52);
        goesFrom("m3 3;g2 4 0;", 14);
        goesFrom("m3 3;g4 5 0;", 46);
        goesFrom("m3 3;g4 1 0;", 40);
        goesFrom("m3 3;g5 4 0;", 64);
        goesFrom("m3 3;g2 1 0;", 20);
        goesFrom("m3 3;g3 3 0;", 33);
        BackMarch x = Check.landOf("m3 3;g3 3 0;");
        Check.due("step() of one who stays", x.step(), 0);
        x.deals(0, 1);
        Check.due("step() with a mirror of one who stays", x.step(), 0);
        Check.due("step() without regiments", new BackMarch().step(), 0);
    }

    private static void goesFrom(String text, int cell) {
        BackMarch x = Check.landOf(text);
        x.step();
        Check.due("step in " + text, x.regiment(0, 0), cell);
    }

    private static void stepsBlocked() {
        goesFrom("m3 3;g7 3 0;", 73);
        goesFrom("m3 3;g0 3 0;", 3);
        goesFrom("m3 3;g3 7 0;", 37);
        goesFrom("m3 3;g3 0 0;", 30);
        goesFrom("o5 3 1;m3 3;g4 3 0;", 43);
        goesFrom("m3 3;g4 3 0;g5 3 9;", 43);
        goesFrom("n5 5;m3 3;g4 3 0;", 43);
        goesFrom("n5 4;m3 2;g3 3 0;", 33);
        // A mother in the way does not hinder.
        goesFrom("m3 3;m5 3;g4 3 0;", 53);
        // One that is on a wall at first leaves it.
        goesFrom("o4 3 1;m3 3;g4 3 0;", 53);
        BackMarch x = Check.landOf("o5 3 1;m3 3;g4 3 0;g2 3 0;");
        Check.due("one of two goes", x.step(), 1);
    }

    private static void stepsInOrder() {
        BackMarch x = Check.landOf("m0 0;g1 0 0;g2 0 0;");
        Check.due("the one behind is stopped", x.step(), 1);
        Check.due("it stays", x.regiment(0, 0), 10);
        Check.due("the other goes", x.regiment(1, 0), 30);
        x = Check.landOf("m0 0;g2 0 0;g1 0 0;");
        Check.due("the one ahead goes first", x.step(), 2);
        Check.due("the first", x.regiment(0, 0), 30);
        Check.due("the second", x.regiment(1, 0), 20);
        x = Check.landOf("m0 0;g1 0 0;g1 0 0;");
        Check.due("of two at one cell", x.step(), 1);
        Check.due("the lower goes", x.regiment(0, 0), 20);
        Check.due("the higher stays", x.regiment(1, 0), 10);
    }

    private static void stepsIntoFolds() {
        BackMarch x = Check.landOf("o3 0 0;o4 0 0;m0 0;g2 0 0;");
        Check.due("into a fold", x.step(), 1);
        Check.due("down in it", x.now(2), 1);
        Check.due("gets up", x.step(), 0);
        Check.due("is up", x.now(2), 0);
        Check.due("is in the fold still", x.regiment(0, 0), 30);
        Check.due("into the next", x.step(), 1);
        Check.due("down again", x.regiment(0, 3), 1);
        x.step();
        x.step();
        Check.due("out of it", x.regiment(0, 0), 50);
        Check.due("up out of it", x.now(2), 0);
        x = Check.landOf("o2 0 0;m0 0;g2 0 0;");
        Check.due("in a fold at first: not down", x.now(2), 0);
        Check.due("in a fold at first: goes", x.step(), 1);
    }

    private static void stepsWithMirrors() {
        // Across along y: the lesser first.
        mirrorGoes("o5 3 0;m3 3;g4 3 0;", 42);
        mirrorGoes("o5 3 1;m3 3;g4 3 0;", 42);
        mirrorGoes("o5 3 0;o4 2 0;m3 3;g4 3 0;", 44);
        mirrorGoes("o5 3 0;o4 2 1;m3 3;g4 3 0;", 44);
        mirrorGoes("o5 3 0;o4 2 1;o4 4 0;m3 3;g4 3 0;", 43);
        mirrorGoes("o5 3 0;o4 2 1;o4 4 1;m3 3;g4 3 0;", 43);
        mirrorGoes("m3 3;g4 3 0;g5 3 9;g4 2 9;", 44);
        mirrorGoes("m3 3;g4 3 0;g5 3 9;g4 2 9;g4 4 9;", 43);
        mirrorGoes("o1 3 0;m3 3;g2 3 0;", 22);
        mirrorGoes("m3 0;g7 0 0;", 71);
        mirrorGoes("m3 7;g7 7 0;", 76);
        mirrorGoes("n8 1;m3 0;g7 0 0;", 70);
        // Across along x.
        mirrorGoes("o3 5 0;m3 3;g3 4 0;", 24);
        mirrorGoes("o3 5 0;o2 4 0;m3 3;g3 4 0;", 44);
        mirrorGoes("o3 5 0;o2 4 0;o4 4 1;m3 3;g3 4 0;", 34);
        mirrorGoes("o3 1 0;m3 3;g3 2 0;", 22);
        mirrorGoes("m0 3;g0 7 0;", 17);
        // Free ahead: it goes there.
        mirrorGoes("m3 3;g4 3 0;", 53);
        mirrorGoes("m3 3;g4 5 0;", 46);
        BackMarch x = Check.landOf("o5 3 0;m3 3;g4 3 0;");
        x.deals(0, 1);
        Check.due("across is another cell", x.step(), 1);
        Check.due("and nobody is down", x.now(2), 0);
        // One that is DOWN gets up, a mirror or none.
        x = Check.landOf("o5 3 0;m3 3;g4 3 0;");
        x.step();
        x.deals(0, 1);
        Check.due("down with a mirror dealt", x.now(2), 1);
        Check.due("gets up with it", x.step(), 0);
        Check.due("is up with it", x.now(2), 0);
    }

    private static void mirrorGoes(String text, int cell) {
        BackMarch x = Check.landOf(text);
        x.deals(0, 1);
        x.step();
        Check.due("with a mirror in " + text, x.regiment(0, 0), cell);
    }

    private static void stepsOfNobodys() {
        BackMarch x = Check.landOf("o2 0 0;m0 0;g1 0 9;");
        Check.due("nobody saw it off", x.step(), 0);
        x.leads(0, 1);
        Check.due("led down", x.now(2), 1);
        Check.due("gets up", x.step(), 0);
        Check.due("is up", x.now(2), 0);
    }

    private static void walking() {
        BackMarch x = Check.landOf("n3 4;o2 2 1;o0 1 0;m1 1;m2 2;g2 1 9;");
        Check.due("to x more", x.walks(0, 1), 21);
        Check.due("to x less", x.walks(0, 0), 11);
        Check.due("into a fold", x.walks(0, 0), 1);
        Check.due("off the land, x", x.walks(0, 0), BackMarch.STATE);
        Check.due("to y less", x.walks(0, 2), 0);
        Check.due("off the land, y", x.walks(0, 2), BackMarch.STATE);
        Check.due("to y more", x.walks(0, 3), 1);
        Check.due("her cell", x.mother(0, 0), 1);
        Check.due("out of a wall", x.walks(1, 3), 23);
        Check.due("off the land, high", x.walks(1, 3), BackMarch.STATE);
        Check.due("off the land, wide", x.walks(1, 1), BackMarch.STATE);
        Check.due("into a wall", x.walks(1, 2), BackMarch.STATE);
        Check.due("refusals are not undone", x.now(3), 6);
        Check.due("known as at first", x.now(0), 1);
        Check.due("walks(2, 0)", x.walks(2, 0), BackMarch.BAD);
        Check.due("walks(-1, 0)", x.walks(-1, 0), BackMarch.BAD);
        Check.due("walks(0, 4)", x.walks(0, 4), BackMarch.BAD);
        Check.due("walks(0, -1)", x.walks(0, -1), BackMarch.BAD);
        x = Check.landOf("m1 1;m2 1;");
        Check.due("to another mother", x.walks(0, 1), 21);
    }

    private static void seeingOff() {
        BackMarch x = Check.landOf("m1 1;m7 7;g2 1 0;g5 5 9;");
        Check.due("is so", x.seesOff(0, 0), BackMarch.STATE);
        Check.due("nobody is so", x.seesOff(1, 9), BackMarch.STATE);
        Check.due("another", x.seesOff(0, 1), 0);
        Check.due("minds", x.regiment(0, 1), 1);
        Check.due("released", x.seesOff(0, 9), 1);
        Check.due("nobody", x.regiment(0, 1), BackMarch.NONE);
        Check.due("from nobody", x.seesOff(1, 0), BackMarch.NONE);
        Check.due("minds now", x.mother(0, 1), 2);
        Check.due("undone by", x.now(3), 3);
        Check.due("seesOff(2, 0)", x.seesOff(2, 0), BackMarch.BAD);
        Check.due("seesOff(-1, 0)", x.seesOff(-1, 0), BackMarch.BAD);
        Check.due("seesOff(0, 2)", x.seesOff(0, 2), BackMarch.BAD);
        Check.due("seesOff(0, -1)", x.seesOff(0, -1), BackMarch.BAD);
        Check.due("seesOff(0, -9)", x.seesOff(0, -9), BackMarch.BAD);
        Check.due("seesOff(0, 8)", x.seesOff(0, 8), BackMarch.BAD);
        Check.due("seesOff(0, 10)", x.seesOff(0, 10), BackMarch.BAD);
        Check.due("seesOff(2, 9)", x.seesOff(2, 9), BackMarch.BAD);
        Check.due("goes from the new one", x.step(), 1);
        Check.due("to", x.regiment(1, 0), 65);
    }

    private static void dealing() {
        BackMarch x = Check.landOf("m1 1;g2 1 0;g5 5 9;g0 0 0;");
        Check.due("none is so", x.deals(0, 0), BackMarch.STATE);
        Check.due("one", x.deals(2, 1), 1);
        Check.due("one is so", x.deals(2, 1), BackMarch.STATE);
        Check.due("two", x.deals(0, 1), 2);
        Check.due("whose", x.now(1), 5);
        Check.due("taken", x.deals(2, 0), 1);
        Check.due("whose then", x.now(1), 1);
        Check.due("undone by", x.now(3), 3);
        Check.due("deals(3, 1)", x.deals(3, 1), BackMarch.BAD);
        Check.due("deals(-1, 1)", x.deals(-1, 1), BackMarch.BAD);
        Check.due("deals(1, 2)", x.deals(1, 2), BackMarch.BAD);
        Check.due("deals(1, -1)", x.deals(1, -1), BackMarch.BAD);
    }

    private static void leading() {
        BackMarch x = Check.landOf("n4 3;o2 1 0;o1 0 1;m3 2;g1 1 9;g0 2 0;g0 0 9;");
        Check.due("minds somebody", x.leads(1, 1), BackMarch.STATE);
        Check.due("into a wall", x.leads(0, 2), BackMarch.STATE);
        Check.due("to x less", x.leads(0, 0), 1);
        Check.due("to a regiment, y more", x.leads(0, 3), BackMarch.STATE);
        Check.due("to a regiment, y less", x.leads(0, 2), BackMarch.STATE);
        Check.due("off the land", x.leads(0, 0), BackMarch.STATE);
        Check.due("to x more", x.leads(0, 1), 11);
        Check.due("into a fold", x.leads(0, 1), 21);
        Check.due("down", x.regiment(0, 3), 1);
        Check.due("down: not led", x.leads(0, 1), BackMarch.STATE);
        Check.due("BAD ahead of STATE", x.leads(0, 4), BackMarch.BAD);
        x.step();
        Check.due("to y more", x.leads(0, 3), 22);
        Check.due("off the land, high", x.leads(0, 3), BackMarch.STATE);
        x.deals(0, 1);
        Check.due("with a mirror into a fold", x.leads(0, 2), 21);
        Check.due("not down", x.regiment(0, 3), 0);
        Check.due("to y less", x.leads(0, 2), 20);
        Check.due("known", x.cell(22, 1), 1);
        Check.due("led to a mother", x.leads(0, 1), 30);
        Check.due("off the land, wide", x.leads(0, 1), BackMarch.STATE);
        Check.due("undone by", x.now(3), 9);
        Check.due("leads(3, 0)", x.leads(3, 0), BackMarch.BAD);
        Check.due("leads(-1, 0)", x.leads(-1, 0), BackMarch.BAD);
        Check.due("leads(0, -1)", x.leads(0, -1), BackMarch.BAD);
    }

    private static void undoing() {
        BackMarch x = Check.landOf("o2 3 0;m3 3;g4 3 0;g1 3 9;");
        x.step();
        x.walks(0, 3);
        x.seesOff(0, 9);
        x.deals(0, 1);
        x.leads(1, 1);
        Check.due("known", x.now(0), 4);
        Check.due("undo of leads", x.undo(), 4);
        Check.due("led back", x.regiment(1, 0), 13);
        Check.due("up again", x.now(2), 0);
        Check.due("not known", x.cell(23, 1), 0);
        Check.due("undo of deals", x.undo(), 3);
        Check.due("mirrors", x.now(1), 0);
        Check.due("undo of seesOff", x.undo(), 2);
        Check.due("minds", x.regiment(0, 1), 0);
        Check.due("undo of walks", x.undo(), 1);
        Check.due("her cell", x.mother(0, 0), 33);
        Check.due("undo of step", x.undo(), 0);
        Check.due("where it was", x.regiment(0, 0), 43);
        Check.due("known as at first", x.now(0), 2);
        Check.due("none", x.undo(), BackMarch.STATE);
        // Refused calls are not among those that are undone.
        x.walks(0, 1);
        x.walks(5, 1);
        x.leads(0, 1);
        x.deals(0, 0);
        x.seesOff(0, 0);
        Check.due("refused", x.now(3), 1);
        x.undo();
        Check.due("her cell again", x.mother(0, 0), 33);
        // WATCHED, THE TRACE, THE TEXT and images are not undone.
        x.step();
        x.watches(0, 1, 1);
        x.rate(0, 0);
        x.keep(0);
        x.type('n');
        x.undo();
        Check.due("watched", x.count(4), 1);
        Check.due("trace", x.trace(), 1);
        Check.due("text", x.count(5), 1);
        Check.due("image", x.back(0), 3);
    }

    private static void undoingTen() {
        BackMarch x = Check.landOf("g0 0 9;");
        for (int i = 1; i <= 7; i++) {
            Check.due("led", x.leads(0, 1), 10 * i);
        }
        for (int i = 1; i <= 5; i++) {
            Check.due("led on", x.leads(0, 3), 70 + i);
        }
        Check.due("ten are known", x.now(3), 10);
        for (int left = 9; left >= 0; left--) {
            Check.due("undo()", x.undo(), left);
        }
        Check.due("older ones are lost", x.undo(), BackMarch.STATE);
        Check.due("where it is", x.regiment(0, 0), 20);
        Check.due("led behind that", x.leads(0, 0), 10);
        Check.due("one is known", x.now(3), 1);
        Check.due("and undone", x.undo(), 0);
        Check.due("where it is then", x.regiment(0, 0), 20);
        for (int i = 0; i < 25; i++) {
            x.step();
        }
        Check.due("steps that move none count", x.now(3), 10);
    }
}
