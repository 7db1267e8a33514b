/** Promises 15 to 20: where, falls, comes, wave, deal, odds. */
public final class ForetoldTest {
    public static void main(String[] args) {
        where();
        falls();
        comes();
        waves();
        waveOfOthers();
        deals();
        odds();
        nothingChanges();
        Check.end("ForetoldTest");
    }

    private static void where() {
        BackMarch x = Check.landOf("o4 1 0;m0 1;g2 1 0;g3 3 9;");
        int[] due = {21, 31, 41, 41, 51, 61, 71, 71};
        for (int n = 0; n < due.length; n++) {
            Check.due("where(0, " + n + ")", x.where(0, n), due[n]);
        }
        Check.due("where(0, 40)", x.where(0, 40), 71);
        Check.due("where(1, 40)", x.where(1, 40), 33);
        Check.due("where(0, 41)", x.where(0, 41), BackMarch.BAD);
        Check.due("where(0, -1)", x.where(0, -1), BackMarch.BAD);
        Check.due("where(2, 0)", x.where(2, 0), BackMarch.BAD);
        Check.due("where(-1, 0)", x.where(-1, 0), BackMarch.BAD);
        // From NOW, one that is DOWN too.
        x.step();
        x.step();
        Check.due("where from down", x.where(0, 1), 41);
        Check.due("where behind that", x.where(0, 2), 51);
        // A mirror, and one that goes to and fro for good.
        x = Check.landOf("o5 3 0;o5 2 0;o4 1 1;m3 3;g4 3 0;");
        x.deals(0, 1);
        Check.due("to", x.where(0, 1), 42);
        Check.due("fro", x.where(0, 2), 43);
        Check.due("to for good", x.where(0, 39), 42);
        Check.due("fro for good", x.where(0, 40), 43);
    }

    private static void falls() {
        BackMarch x = Check.landOf("o2 0 0;o4 0 0;o2 5 0;m0 0;m0 5;g1 0 0;g1 5 1;g7 7 9;");
        int[] due = {0, 2, 2, 2, 3, 3, 3, 3, 3};
        for (int n = 0; n < due.length; n++) {
            Check.due("falls(" + n + ")", x.falls(n), due[n]);
        }
        Check.due("falls(40)", x.falls(40), 3);
        x.step();
        Check.due("those who are down do not count", x.falls(0), 0);
        Check.due("nor when they get up", x.falls(1), 0);
        Check.due("but later ones", x.falls(40), 1);
        x.deals(0, 1);
        Check.due("not with a mirror", x.falls(40), 0);
        Check.due("falls(-1)", x.falls(-1), BackMarch.BAD);
        Check.due("falls(41)", x.falls(41), BackMarch.BAD);
        // One regiment, many folds.
        x = Check.landOf("o1 0 0;o2 0 0;o3 0 0;o4 0 0;o5 0 0;o6 0 0;o7 0 0;m0 0;g0 1 0;g1 0 0;");
        Check.due("each fold", x.falls(40), 6);
    }

    private static void comes() {
        BackMarch x = Check.landOf("o4 1 0;m0 1;g2 1 0;g3 3 9;");
        Check.due("is there", x.comes(0, 21), 0);
        Check.due("first", x.comes(0, 31), 1);
        Check.due("first of two", x.comes(0, 41), 2);
        Check.due("behind a fall", x.comes(0, 51), 4);
        Check.due("never", x.comes(0, 22), BackMarch.NONE);
        Check.due("never goes", x.comes(1, 34), BackMarch.NONE);
        Check.due("comes(0, 8)", x.comes(0, 8), BackMarch.BAD);
        Check.due("comes(0, 80)", x.comes(0, 80), BackMarch.BAD);
        Check.due("comes(0, -1)", x.comes(0, -1), BackMarch.BAD);
        Check.due("comes(2, 0)", x.comes(2, 0), BackMarch.BAD);
        Check.due("comes(-1, 0)", x.comes(-1, 0), BackMarch.BAD);
        // A long way, found by search: the model says the same.
        x = Check.landOf("m4 7;m0 2;m0 5;m6 1;g1 6 0;g0 2 2;g6 2 3;g0 1 1;o5 1 0;o5 0 1;o2 3 0;o6 6 0;o3 4 1;"
                + "o6 1 0;o6 0 0;o6 1 0;o2 5 1;o3 6 1;");
        for (int g = 0; g < 4; g++) {
            x.deals(g, 1);
        }
        Check.due("behind 40 steps", x.comes(3, 71), 40);
        Check.due("where behind 40 steps", x.where(3, 40), 71);
        x.step();
        Check.due("behind 39 steps", x.comes(3, 71), 39);
    }

    private static void waves() {
        BackMarch x = Check.landOf("m7 7;g3 3 0;g5 5 9;");
        // Away along x to 43: her x is 2 or less and y within as much; the lowest of those is 0.
        Check.due("to x more", x.wave(0, 43, 1), 0);
        // To 23: |dx| at least |dy|, to the right of it: x 4, y 2..4.
        Check.due("to x less", x.wave(0, 23, 1), 42);
        // To 34: her y is less and differs by more than x.
        Check.due("to y more", x.wave(0, 34, 1), 10);
        Check.due("to y less", x.wave(0, 32, 1), 7 + 0 * 10);
        Check.due("stays", x.wave(0, 33, 1), 33);
        Check.due("no steps", x.wave(0, 33, 0), 0);
        Check.due("no steps elsewhere", x.wave(0, 34, 0), BackMarch.NONE);
        Check.due("beyond reach", x.wave(0, 73, 3), BackMarch.NONE);
        Check.due("in reach", x.wave(0, 73, 4), 0);
        Check.due("minds nobody", x.wave(1, 55, 0), BackMarch.STATE);
        Check.due("BAD ahead of STATE", x.wave(1, 55, 21), BackMarch.BAD);
        Check.due("wave(2, 0, 0)", x.wave(2, 0, 0), BackMarch.BAD);
        Check.due("wave(-1, 0, 0)", x.wave(-1, 0, 0), BackMarch.BAD);
        Check.due("wave(0, 8, 0)", x.wave(0, 8, 0), BackMarch.BAD);
        Check.due("wave(0, -1, 0)", x.wave(0, -1, 0), BackMarch.BAD);
        Check.due("wave(0, 0, -1)", x.wave(0, 0, -1), BackMarch.BAD);
        Check.due("wave(0, 0, 21)", x.wave(0, 0, 21), BackMarch.BAD);
        Check.due("far", x.wave(0, 73, 20), 0);
        // Not on a wall; a fold will do.
        x = Check.landOf("o0 0 1;o0 1 0;m7 7;g3 3 0;");
        Check.due("not on a wall", x.wave(0, 43, 1), 1);
        x = Check.landOf("n2 2;o1 1 1;m0 0;g1 1 0;");
        Check.due("a wall to come to", x.wave(0, 11, 2), 0);
        x = Check.landOf("n3 3;m0 0;g1 1 0;");
        Check.due("the last cell alone", x.wave(0, 1, 1), 20);
    }

    private static void waveOfOthers() {
        // Both mind her: where she stands both go. 1 holds 0 up unless it goes out of its way first.
        BackMarch x = Check.landOf("n8 1;m0 0;g3 0 0;g4 0 0;");
        Check.due("held up by the other", x.wave(0, 50, 2), BackMarch.NONE);
        Check.due("the other makes way", x.wave(0, 40, 2), 0);
        Check.due("goes to the lesser side", x.wave(1, 20, 3), BackMarch.NONE);
        Check.due("behind the one that went", x.wave(1, 30, 1), 50);
    }

    private static void deals() {
        BackMarch x = Check.landOf("o2 0 0;o2 2 0;o4 2 0;m0 0;m0 2;m0 4;g1 0 0;g1 2 1;g1 4 2;");
        Check.due("none", x.deal(0, 9), 0);
        Check.due("to whom it helps most", x.deal(1, 9), 2);
        Check.due("in few steps the least", x.deal(1, 1), 1);
        Check.due("in no steps the least", x.deal(1, 0), 1);
        Check.due("two", x.deal(2, 9), 3);
        Check.due("all", x.deal(3, 20), 7);
        Check.due("too many", x.deal(4, 20), BackMarch.NONE);
        Check.due("deal(-1, 0)", x.deal(-1, 0), BackMarch.BAD);
        Check.due("deal(5, 0)", x.deal(5, 0), BackMarch.BAD);
        Check.due("deal(0, -1)", x.deal(0, -1), BackMarch.BAD);
        Check.due("deal(0, 21)", x.deal(0, 21), BackMarch.BAD);
        // Those that have mirrors NOW have none unless they are in the set.
        x.deals(0, 1);
        x.deals(1, 1);
        x.deals(2, 1);
        Check.due("no others", x.deal(1, 9), 2);
        Check.due("mirrors stay", x.now(1), 7);
    }

    private static void odds() {
        BackMarch none = new BackMarch();
        ratio(none, 5, 0, 1, 1);
        ratio(none, 10, 4, 1, 1);
        BackMarch one = Check.landOf("m0 0;");
        ratio(one, 0, 0, 1, 1);
        ratio(one, 3, 0, 7, 10);
        ratio(one, 4, 0, 3, 5);
        ratio(one, 5, 0, 1, 2);
        ratio(one, 10, 0, 0, 1);
        ratio(one, 10, 1, 1, 1);
        BackMarch three = Check.landOf("m0 0;m0 0;m0 0;");
        ratio(three, 5, 0, 1, 8);
        ratio(three, 5, 1, 1, 2);
        ratio(three, 5, 2, 7, 8);
        ratio(three, 5, 3, 1, 1);
        ratio(three, 5, 4, 1, 1);
        ratio(three, 1, 0, 729, 1000);
        ratio(three, 10, 2, 0, 1);
        BackMarch four = Check.landOf("m0 0;m0 0;m0 0;m0 0;");
        ratio(four, 1, 0, 6561, 10000);
        ratio(four, 1, 1, 9477, 10000);
        ratio(four, 2, 2, 608, 625);
        ratio(four, 7, 3, 7599, 10000);
        ratio(four, 10, 4, 1, 1);
        ratio(four, 10, 3, 0, 1);
        ratio(four, 0, 0, 1, 1);
        Check.due("odds(-1, 0, 0)", four.odds(-1, 0, 0), BackMarch.BAD);
        Check.due("odds(11, 0, 0)", four.odds(11, 0, 0), BackMarch.BAD);
        Check.due("odds(0, -1, 0)", four.odds(0, -1, 0), BackMarch.BAD);
        Check.due("odds(0, 5, 0)", four.odds(0, 5, 0), BackMarch.BAD);
        Check.due("odds(0, 0, -1)", four.odds(0, 0, -1), BackMarch.BAD);
        Check.due("odds(0, 0, 2)", four.odds(0, 0, 2), BackMarch.BAD);
    }

    private static void ratio(BackMarch x, int tenths, int k, int upper, int lower) {
        Check.due("upper of odds(" + tenths + ", " + k + ")", x.odds(tenths, k, 0), upper);
        Check.due("lower of odds(" + tenths + ", " + k + ")", x.odds(tenths, k, 1), lower);
    }

    private static void nothingChanges() {
        BackMarch x = Check.landOf("o2 0 0;o5 0 0;m0 0;m7 7;g1 0 0;g5 5 1;g4 4 9;");
        x.step();
        x.deals(1, 1);
        x.where(0, 40);
        x.falls(40);
        x.comes(0, 77);
        x.wave(0, 77, 20);
        x.deal(2, 20);
        x.odds(3, 2, 0);
        x.faced(0);
        x.look(0);
        Check.due("known", x.now(0), 5);
        Check.due("mirrors", x.now(1), 2);
        Check.due("down", x.now(2), 1);
        Check.due("undone", x.now(3), 2);
        Check.due("regiment 0", x.regiment(0, 0), 20);
        Check.due("regiment 1", x.regiment(1, 0), 45);
        Check.due("minds", x.regiment(0, 1), 0);
        Check.due("mother 0", x.mother(0, 0), 0);
        Check.due("trace", x.trace(), 0);
    }
}
