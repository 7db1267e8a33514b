/** Promises 25 to 29: kinds, images, counts, THE TRACE. */
public final class KindsTest {
    public static void main(String[] args) {
        rates();
        ratesBelowZero();
        traces();
        images();
        imagesAndUndo();
        counts();
        Check.end("KindsTest");
    }

    private static void rates() {
        BackMarch x = Check.landOf("m7 1;g2 5 0;g6 4 9;g3 3 0;");
        x.deals(0, 1);
        x.deals(2, 1);
        x.leads(1, 0);
        // 25: 7; 5 + 4 from her; two mirrors; four cells known.
        int[] first = {7, 16, 5, 32, 5, 11};
        int[] second = {9, 9, 7, 18, 8, 13};
        int[] third = {6, 12, 4, 24, 6, 10};
        for (int kind = 0; kind <= 5; kind++) {
            Check.due("rate(" + kind + ", 0)", x.rate(kind, 0), first[kind]);
            Check.due("rate(" + kind + ", 1)", x.rate(kind, 1), second[kind]);
            Check.due("rate(" + kind + ", 2)", x.rate(kind, 2), third[kind]);
        }
        long asked = x.trace();
        Check.due("rate(-1, 0)", x.rate(-1, 0), BackMarch.NO);
        Check.due("rate(6, 0)", x.rate(6, 0), BackMarch.NO);
        Check.due("rate(0, 3)", x.rate(0, 3), BackMarch.NO);
        Check.due("rate(5, -1)", x.rate(5, -1), BackMarch.NO);
        Check.due("trace behind BAD", x.trace(), asked);
        // To either side of her.
        x = Check.landOf("m3 3;g5 7 0;g1 2 0;");
        Check.due("more", x.rate(1, 0), 12 + 6);
        Check.due("less", x.rate(1, 1), 3 + 3);
    }

    private static void ratesBelowZero() {
        BackMarch x = Check.landOf("g0 0 9;g0 1 9;g0 1 9;g0 1 9;");
        for (int g = 0; g < 4; g++) {
            x.deals(g, 1);
        }
        Check.due("guards", x.rate(2, 0), -4);
        Check.due("scouts", x.rate(4, 0), -4);
        Check.due("scouts by number", x.rate(4, 3), 0);
    }

    private static void traces() {
        long[] due = {1, 11, 101, 1011, 10101, 100001};
        for (int kind = 0; kind <= 5; kind++) {
            BackMarch x = Check.landOf("m1 1;g2 5 0;");
            x.rate(kind, 0);
            Check.due("trace of " + kind, x.trace(), due[kind]);
            x.rate(kind, 0);
            Check.due("trace of twice " + kind, x.trace(), 2 * due[kind]);
            x.step();
            x.undo();
            x.keep(0);
            x.back(0);
            Check.read(x, "n1 1;");
            Check.due("trace goes on", x.trace(), 2 * due[kind]);
        }
    }

    private static void images() {
        BackMarch x = Check.landOf("o5 3 0;m3 3;m0 0;g4 3 0;g0 7 9;");
        Check.due("back(0) of none", x.back(0), BackMarch.STATE);
        Check.due("keep(0)", x.keep(0), 2);
        Check.due("back(1) of none", x.back(1), BackMarch.STATE);
        x.step();
        x.walks(0, 3);
        x.deals(1, 1);
        x.seesOff(1, 1);
        Check.due("keep(1)", x.keep(1), 3);
        Check.due("back(0)", x.back(0), 2);
        sees(x, 33, 43, BackMarch.NONE, 0, 0, 2);
        Check.due("back(1)", x.back(1), 3);
        sees(x, 34, 53, 1, 2, 1, 3);
        Check.due("back(1) again", x.back(1), 3);
        x.step();
        x.step();
        Check.due("kept anew", x.keep(1), x.now(0));
        int at = x.regiment(0, 0);
        x.back(0);
        x.back(1);
        Check.due("as kept anew", x.regiment(0, 0), at);
        int[] bad = {-1, 2, Integer.MIN_VALUE, Integer.MAX_VALUE, 32};
        for (int image : bad) {
            Check.due("keep(" + image + ")", x.keep(image), BackMarch.BAD);
            Check.due("back(" + image + ")", x.back(image), BackMarch.BAD);
        }
    }

    private static void sees(BackMarch x, int mother, int regiment, int minded, int mirrors, int down, int known) {
        Check.due("mother", x.mother(0, 0), mother);
        Check.due("regiment", x.regiment(0, 0), regiment);
        Check.due("minded", x.regiment(1, 1), minded);
        Check.due("mirrors", x.now(1), mirrors);
        Check.due("down", x.now(2), down);
        Check.due("known", x.now(0), known);
        Check.due("nothing can be undone", x.now(3), 0);
        Check.due("undo()", x.undo(), BackMarch.STATE);
    }

    private static void imagesAndUndo() {
        BackMarch x = Check.landOf("m3 3;g4 3 0;");
        x.step();
        x.back(0);
        Check.due("refused: undone still", x.now(3), 1);
        x.keep(0);
        Check.due("kept: undone still", x.now(3), 1);
        x.watches(0, 1, 1);
        x.type('m');
        x.back(0);
        Check.due("undone no more", x.now(3), 0);
        Check.due("watched still", x.count(4), 1);
        Check.due("text still", x.count(5), 1);
        x.step();
        Check.due("undo() behind back()", x.undo(), 0);
        Check.due("to the image", x.regiment(0, 0), 53);
        // An image is a copy: what is done behind keep() does not reach it.
        x.step();
        Check.due("known in it", x.back(0), 2);
        Check.due("where in it", x.regiment(0, 0), 53);
    }

    private static void counts() {
        BackMarch x = Check.landOf("n5 6;m0 0;m1 1;m2 2;g3 3 9;");
        x.watches(0, 0, 0);
        Check.type(x, "abcdefg");
        int[] due = {5, 6, 3, 1, 1, 7};
        for (int what = 0; what < due.length; what++) {
            Check.due("count(" + what + ")", x.count(what), due[what]);
        }
        Check.due("count(-1)", x.count(-1), BackMarch.BAD);
        Check.due("count(6)", x.count(6), BackMarch.BAD);
    }
}
