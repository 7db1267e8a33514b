/** The bounds that section 4 of the document names, promises 25 to 29, and those of a whole object. */
public final class KindsBoundsTest {
    public static void main(String[] args) {
        ratesAtTheCorners();
        ratesOfNobodys();
        ratesOfMirrors();
        ratesOfNumbers();
        ratesOfKnownCells();
        ratesOfNoKind();
        traceAtFirst();
        traceOfEachOnce();
        traceOfMany();
        imagesZeroAndOne();
        imagesNotKept();
        imagesKeptOver();
        imagesOfAllThatIsNow();
        imagesOfNothingElse();
        imagesGoneWithTheLand();
        nothingUndoneBehindBack();
        countsAtTheEnds();
        callsTo512();
        objectsApart();
        Check.end("KindsBoundsTest");
    }

    private static void rates(BackMarch x, int g, int... due) {
        for (int kind = 0; kind < due.length; kind++) {
            Check.due("rate(" + kind + ", " + g + ")", x.rate(kind, g), due[kind]);
        }
    }

    // FOOT its x and y together; HUSSARS up, and how far x and y are from those of whom it MINDS
    private static void ratesAtTheCorners() {
        BackMarch x = Check.landOf("m0 0;m7 7;g0 0 0;g7 7 0;g0 0 1;g7 7 1;");
        rates(x, 0, 0, 0, 0, 0, 0, 2);
        rates(x, 1, 14, 28, 14, 56, 15, 16);
        rates(x, 2, 0, 14, 0, 28, 2, 2);
        rates(x, 3, 14, 14, 14, 28, 17, 16);
    }

    // (0: nobody)
    private static void ratesOfNobodys() {
        BackMarch x = Check.landOf("m7 7;g2 1 9;");
        rates(x, 0, 3, 3, 3, 6, 3, 4);
        x.seesOff(0, 0);
        rates(x, 0, 3, 14, 3, 28, 3, 4);
        x.seesOff(0, 9);
        rates(x, 0, 3, 3, 3, 6, 3, 4);
    }

    // GUARDS up less how many MIRRORS there are
    private static void ratesOfMirrors() {
        BackMarch x = Check.landOf("g0 0 9;g0 0 9;g0 0 9;g0 1 9;");
        for (int g = 0; g < 4; g++) {
            Check.due("GUARDS with " + g, x.rate(2, 0), -g);
            Check.due("SCOUTS with " + g, x.rate(4, 3), 4 - g);
            x.deals(g, 1);
        }
        Check.due("GUARDS with four", x.rate(2, 0), -4);
        Check.due("SCOUTS with four", x.rate(4, 3), 0);
    }

    // SCOUTS up, and its number
    private static void ratesOfNumbers() {
        BackMarch x = Check.landOf("g2 2 9;g2 2 9;g2 2 9;g2 2 9;");
        for (int g = 0; g < 4; g++) {
            Check.due("SCOUTS of " + g, x.rate(4, g), 4 + g);
            Check.due("GUARDS of " + g, x.rate(2, g), 4);
        }
    }

    // BAND up, and how many cells are KNOWN
    private static void ratesOfKnownCells() {
        BackMarch x = Check.landOf("m0 0;g1 0 0;");
        Check.due("BAND at first", x.rate(5, 0), 2);
        x.step();
        Check.due("BAND behind a step", x.rate(5, 0), 4);
        x.undo();
        Check.due("BAND undone", x.rate(5, 0), 2);
    }

    // NO: BAD
    private static void ratesOfNoKind() {
        BackMarch x = Check.landOf("g0 0 9;g7 7 9;");
        int[] kinds = {-1, 6, 9, 10, 100, Integer.MIN_VALUE, Integer.MAX_VALUE};
        for (int kind : kinds) {
            Check.due("rate(" + kind + ", 0)", x.rate(kind, 0), BackMarch.NO);
        }
        int[] regiments = {-1, 2, 3, 4, 9, Integer.MIN_VALUE, Integer.MAX_VALUE};
        for (int g : regiments) {
            for (int kind = 0; kind <= 5; kind++) {
                Check.due("rate(" + kind + ", " + g + ")", x.rate(kind, g), BackMarch.NO);
            }
        }
        Check.due("of no REGIMENTS", new BackMarch().rate(0, 0), BackMarch.NO);
        Check.due("THE TRACE", x.trace(), 0);
    }

    // THE TRACE, 0 at first
    private static void traceAtFirst() {
        BackMarch x = new BackMarch();
        Check.due("at first", x.trace(), 0);
        Check.read(x, "m0 0;g1 1 0;");
        x.step();
        x.falls(40);
        x.look(0);
        Check.due("rate() alone adds to it", x.trace(), 0);
    }

    // as often as rate() asks that body: each once
    private static void traceOfEachOnce() {
        long[] due = {1, 11, 101, 1011, 10101, 100001};
        BackMarch x = Check.landOf("m0 0;g1 1 0;");
        long sum = 0;
        for (int kind = 0; kind <= 5; kind++) {
            x.rate(kind, 0);
            sum += due[kind];
            Check.due("behind kind " + kind, x.trace(), sum);
        }
    }

    private static void traceOfMany() {
        BackMarch x = Check.landOf("g7 7 9;");
        for (int i = 1; i <= 500; i++) {
            x.rate(5, 0);
        }
        Check.due("behind 500", x.trace(), 50000500L);
    }

    // IMAGES 0, 1
    private static void imagesZeroAndOne() {
        BackMarch x = Check.landOf("m0 0;g1 0 0;");
        Check.due("keep(-1)", x.keep(-1), BackMarch.BAD);
        Check.due("keep(2)", x.keep(2), BackMarch.BAD);
        Check.due("back(-1)", x.back(-1), BackMarch.BAD);
        Check.due("back(2)", x.back(2), BackMarch.BAD);
        Check.due("keep(0)", x.keep(0), 1);
        x.step();
        Check.due("keep(1)", x.keep(1), 2);
        x.step();
        Check.due("back(0)", x.back(0), 1);
        Check.due("as in 0", x.regiment(0, 0), 10);
        Check.due("back(1)", x.back(1), 2);
        Check.due("as in 1", x.regiment(0, 0), 20);
    }

    // back: STATE: none was kept
    private static void imagesNotKept() {
        BackMarch x = new BackMarch();
        Check.due("back(0) of a new object", x.back(0), BackMarch.STATE);
        Check.due("back(1) of a new object", x.back(1), BackMarch.STATE);
        Check.due("keep(1) of nothing", x.keep(1), 0);
        Check.due("back(0)", x.back(0), BackMarch.STATE);
        Check.due("back(1) of nothing", x.back(1), 0);
        x = Check.landOf("m0 0;g1 0 0;");
        x.step();
        Check.due("back(0)", x.back(0), BackMarch.STATE);
        Check.due("refused: nothing changes", x.now(3), 1);
    }

    private static void imagesKeptOver() {
        BackMarch x = Check.landOf("m0 0;g1 0 0;");
        for (int i = 1; i <= 5; i++) {
            Check.due("kept over", x.keep(0), i);
            x.step();
            Check.due("back", x.back(0), i);
            Check.due("back again", x.back(0), i);
            x.step();
        }
        Check.due("the latest", x.back(0), 5);
        Check.due("where", x.regiment(0, 0), 50);
    }

    // all CELLS, who is MINDED, MIRRORS, who is DOWN, what is KNOWN
    private static void imagesOfAllThatIsNow() {
        BackMarch x = Check.landOf("o2 0 0;m0 0;m7 7;g1 0 0;g4 4 9;");
        x.step();
        x.deals(1, 1);
        x.keep(0);
        x.step();
        x.deals(1, 0);
        x.deals(0, 1);
        x.seesOff(0, 1);
        x.seesOff(1, 0);
        x.walks(0, 1);
        x.step();
        Check.due("KNOWN", x.back(0), 3);
        Check.due("CELL of a MOTHER", x.mother(0, 0), 0);
        Check.due("CELL of a REGIMENT", x.regiment(0, 0), 20);
        Check.due("CELL of the other", x.regiment(1, 0), 44);
        Check.due("who is MINDED", x.regiment(0, 1), 0);
        Check.due("who is MINDED by the other", x.regiment(1, 1), BackMarch.NONE);
        Check.due("MIRRORS", x.now(1), 2);
        Check.due("who is DOWN", x.now(2), 1);
        Check.due("what is KNOWN", x.cell(54, 1), 0);
    }

    // nothing else
    private static void imagesOfNothingElse() {
        BackMarch x = Check.landOf("m0 0;g1 0 0;");
        x.watches(0, 1, 20);
        x.type('n');
        x.rate(0, 0);
        x.keep(0);
        x.keep(1);
        x.watches(0, 2, 30);
        x.type('8');
        x.rate(0, 0);
        Check.due("back", x.back(0), 1);
        Check.due("WATCHED", x.count(4), 2);
        Check.due("letters", x.count(5), 2);
        Check.due("THE TRACE", x.trace(), 2);
        Check.due("the other image", x.back(1), 1);
    }

    // IMAGES are gone
    private static void imagesGoneWithTheLand() {
        BackMarch x = Check.landOf("m0 0;g1 0 0;");
        x.keep(0);
        x.keep(1);
        Check.read(x, "m0 0;g1 0 0;?");
        Check.due("there behind a FAULT", x.back(0), 1);
        Check.read(x, "m0 0;g1 0 0;");
        Check.due("0 is gone", x.back(0), BackMarch.STATE);
        Check.due("1 is gone", x.back(1), BackMarch.STATE);
        Check.due("kept anew", x.keep(1), 1);
        Check.due("0 is gone still", x.back(0), BackMarch.STATE);
    }

    // nothing can be UNDONE behind back()
    private static void nothingUndoneBehindBack() {
        BackMarch x = Check.landOf("m0 0;g1 0 0;");
        x.step();
        x.keep(0);
        Check.due("behind keep()", x.now(3), 1);
        for (int i = 0; i < 12; i++) {
            x.step();
        }
        x.back(0);
        Check.due("behind back()", x.now(3), 0);
        Check.due("undo()", x.undo(), BackMarch.STATE);
        x.step();
        Check.due("of what is done then", x.undo(), 0);
        Check.due("where", x.regiment(0, 0), 20);
        Check.due("undo() again", x.undo(), BackMarch.STATE);
    }

    private static void countsAtTheEnds() {
        BackMarch x = new BackMarch();
        int[] first = {8, 8, 0, 0, 0, 0};
        counts(x, first);
        Check.read(x, "n1 2;m0 0;m0 0;m0 0;m0 0;g0 0 9;g0 0 9;g0 0 9;g0 0 9;");
        for (int i = 0; i < 7; i++) {
            x.watches(0, 0, 0);
        }
        Check.type(x, " ".repeat(121));
        int[] full = {1, 2, 4, 4, 6, 120};
        counts(x, full);
        Check.due("count(-1)", x.count(-1), BackMarch.BAD);
        Check.due("count(6)", x.count(6), BackMarch.BAD);
    }

    private static void counts(BackMarch x, int[] due) {
        for (int what = 0; what < due.length; what++) {
            Check.due("count(" + what + ")", x.count(what), due[what]);
        }
    }

    // An object is used for at most 512 calls after it has been made.
    private static void callsTo512() {
        BackMarch x = Check.landOf("m0 0;g1 0 0;");
        int calls = 1 + 12 + 1;
        while (calls < 504) {
            Check.due("step()", x.step(), calls - 14 < 6 ? 1 : 0);
            calls++;
        }
        Check.due("now(3)", x.now(3), 10);
        Check.due("where", x.where(0, 40), 70);
        Check.due("rate", x.rate(3, 0), 28);
        Check.due("keep", x.keep(1), 7);
        Check.due("undo", x.undo(), 9);
        Check.due("back", x.back(1), 7);
        Check.due("wave", x.wave(0, 70, 20), 0);
        Check.due("the 512th", x.trace(), 1011);
    }

    private static void objectsApart() {
        BackMarch x = Check.landOf("m0 0;g1 0 0;");
        BackMarch y = Check.landOf("n2 2;o1 1 1;m1 0;m0 1;g0 0 1;g0 0 9;");
        x.step();
        x.rate(5, 0);
        x.type('?');
        x.watches(0, 0, 0);
        x.keep(0);
        Check.due("the other's WIDE", y.count(0), 2);
        Check.due("the other's KNOWN", y.now(0), 1);
        Check.due("the other's UNDONE", y.now(3), 0);
        Check.due("the other's WATCHED", y.count(4), 0);
        Check.due("the other's text", y.count(5), 0);
        Check.due("the other's TRACE", y.trace(), 0);
        Check.due("the other's image", y.back(0), BackMarch.STATE);
        Check.due("its own", x.back(0), 2);
    }
}
