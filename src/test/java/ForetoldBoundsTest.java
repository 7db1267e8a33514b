/** The bounds that section 3 of the document names, promises 15 to 24: a method for each sentence. */
public final class ForetoldBoundsTest {
    private static final String TO_AND_FRO = "o5 3 0;o5 2 0;o4 1 1;m3 3;g4 3 0;";
    private static final String LONG_WAY = "m2 7;m3 5;m1 0;g0 6 2;g4 7 0;g3 7 1;g0 1 2;o0 5 1;o1 1 0;o1 3 1;"
            + "o2 1 0;o5 2 0;o5 3 1;o5 4 1;o5 5 0;";

    public static void main(String[] args) {
        whereBehindNoSteps();
        whereBehindForty();
        fallsInNoSteps();
        fallsInForty();
        fallsLate();
        comesBehindNoSteps();
        comesBehindForty();
        comesNever();
        waveBehindNoSteps();
        waveBehindTwenty();
        waveNone();
        waveLowest();
        waveMindsNobody();
        dealOfNoMirrors();
        dealOfAll();
        dealTooMany();
        dealInNoSteps();
        dealLeastBits();
        dealLate();
        oddsOfNoMothers();
        oddsOfNoneAndAll();
        oddsOfAsManyAsThereAre();
        oddsLeastTerms();
        watchedSix();
        watchedBehindTwenty();
        mindedOfNothingWatched();
        mindedOfAnotherWatched();
        mindedOfWhatCannotBe();
        mindedFromNow();
        lookWhenOneCanBe();
        lookNeverApart();
        lookAtOnce();
        lookBehindTwenty();
        Check.end("ForetoldBoundsTest");
    }

    private static BackMarch allMirrored(String text) {
        BackMarch x = Check.landOf(text);
        for (int g = 0; g < x.count(3); g++) {
            x.deals(g, 1);
        }
        return x;
    }

    // WHERE: n (0 .. 40)
    private static void whereBehindNoSteps() {
        BackMarch x = Check.landOf("o3 0 0;m0 0;g2 0 0;");
        Check.due("where(0, 0)", x.where(0, 0), 20);
        x.step();
        Check.due("where(0, 0) when DOWN", x.where(0, 0), 30);
        Check.due("where(0, 1) when DOWN", x.where(0, 1), 30);
        Check.due("where(0, 2) when DOWN", x.where(0, 2), 40);
    }

    private static void whereBehindForty() {
        BackMarch x = allMirrored(TO_AND_FRO);
        Check.due("where(0, 39)", x.where(0, 39), 42);
        Check.due("where(0, 40)", x.where(0, 40), 43);
        Check.due("where(0, 41)", x.where(0, 41), BackMarch.BAD);
        Check.due("where(0, -1)", x.where(0, -1), BackMarch.BAD);
    }

    // FALLS: how often one comes to be DOWN
    private static void fallsInNoSteps() {
        BackMarch x = Check.landOf("o2 0 0;m0 0;g1 0 0;");
        Check.due("falls(0)", x.falls(0), 0);
        Check.due("falls(1)", x.falls(1), 1);
        x.step();
        Check.due("falls(0) when DOWN", x.falls(0), 0);
        Check.due("falls(40) when DOWN", x.falls(40), 0);
        Check.due("falls(0) of none", new BackMarch().falls(0), 0);
    }

    private static void fallsInForty() {
        // One falls into six FOLDS, two into one each.
        BackMarch x = Check.landOf("n8 4;o1 0 0;o2 0 0;o3 0 0;o4 0 0;o5 0 0;o6 0 0;o7 0 0;m0 0;m0 2;m0 3;g0 0 0;"
                + "g1 0 0;o2 2 0;g1 2 1;o7 3 0;g1 3 2;");
        Check.due("falls(40)", x.falls(40), 6 + 1 + 1);
        Check.due("falls(41)", x.falls(41), BackMarch.BAD);
        Check.due("falls(-1)", x.falls(-1), BackMarch.BAD);
    }

    private static void fallsLate() {
        // Found by search: nobody was found to fall later than in the 18th STEP.
        BackMarch x = Check.landOf("m4 2;m3 1;m0 4;g2 3 1;g2 3 1;g1 4 2;g2 4 1;o5 4 0;o2 4 0;o0 6 1;o1 6 1;o7 4 0;"
                + "o3 4 0;o3 6 1;o6 4 0;o2 6 0;o4 4 0;o0 5 1;");
        x.deals(3, 1);
        int[] due = {0, 0, 1, 1, 1, 2, 3, 3, 4, 5, 6, 6, 7, 7, 8, 8, 9, 9, 10};
        for (int n = 0; n <= 40; n++) {
            Check.due("falls(" + n + ")", x.falls(n), due[Math.min(n, 18)]);
        }
    }

    // COMES: behind how many (0 .. 40) STEPS it is there first
    private static void comesBehindNoSteps() {
        BackMarch x = allMirrored(TO_AND_FRO);
        Check.due("where it is", x.comes(0, 43), 0);
        Check.due("first, of many times", x.comes(0, 42), 1);
        BackMarch wall = Check.landOf("o4 3 1;m3 3;g4 3 0;");
        Check.due("on a WALL", wall.comes(0, 43), 0);
    }

    private static void comesBehindForty() {
        // Found by search: regiment 2 goes along x at last, to be at 10 first behind 41 STEPS.
        BackMarch x = allMirrored(LONG_WAY);
        Check.due("behind 39", x.comes(2, 30), 39);
        Check.due("behind 40", x.comes(2, 20), 40);
        Check.due("where behind 40", x.where(2, 40), 20);
        Check.due("behind 41: NONE", x.comes(2, 10), BackMarch.NONE);
        x.step();
        Check.due("behind 40 from then on", x.comes(2, 10), 40);
        Check.due("behind 39 from then on", x.comes(2, 20), 39);
    }

    // COMES: NONE
    private static void comesNever() {
        BackMarch x = Check.landOf("n8 2;o7 1 1;m0 0;g1 0 0;g5 1 9;");
        Check.due("behind it", x.comes(0, 0), BackMarch.NONE);
        Check.due("beside it", x.comes(0, 11), BackMarch.NONE);
        Check.due("a WALL", x.comes(0, 71), BackMarch.NONE);
        Check.due("of nobody's", x.comes(1, 50), BackMarch.NONE);
        Check.due("of nobody's, its own", x.comes(1, 51), 0);
    }

    // WAVE: n (0 .. 20)
    private static void waveBehindNoSteps() {
        BackMarch x = Check.landOf("m7 7;g3 3 0;");
        Check.due("its own cell", x.wave(0, 33, 0), 0);
        Check.due("another", x.wave(0, 43, 0), BackMarch.NONE);
        Check.due("n -1", x.wave(0, 33, -1), BackMarch.BAD);
    }

    private static void waveBehindTwenty() {
        BackMarch x = Check.landOf("n8 1;m7 0;g1 0 0;");
        Check.due("behind 20", x.wave(0, 70, 20), 0);
        Check.due("stays behind 20", x.wave(0, 10, 20), 10);
        Check.due("never behind 20", x.wave(0, 40, 20), BackMarch.NONE);
        Check.due("n 21", x.wave(0, 70, 21), BackMarch.BAD);
        // If she stands at 0, to 11 and fro; if at 10 it stays; if at 11 it goes to 0, and stays.
        x = allMirrored("n2 2;o0 1 1;m0 0;g1 0 0;");
        Check.due("to, behind 19", x.wave(0, 11, 19), 0);
        Check.due("to, behind 20", x.wave(0, 11, 20), BackMarch.NONE);
        Check.due("fro, behind 19", x.wave(0, 10, 19), 10);
        Check.due("fro, behind 20", x.wave(0, 10, 20), 0);
        Check.due("away, behind 20", x.wave(0, 0, 20), 11);
    }

    // WAVE: the lowest CELL; NONE
    private static void waveNone() {
        BackMarch x = Check.landOf("n2 1;o0 0 1;o1 0 1;m0 0;g0 0 0;");
        Check.due("WALLS alone", x.wave(0, 0, 0), BackMarch.NONE);
        Check.due("WALLS alone, in a step", x.wave(0, 10, 1), BackMarch.NONE);
        x = Check.landOf("n1 1;m0 0;g0 0 0;");
        Check.due("one cell", x.wave(0, 0, 20), 0);
        x = Check.landOf("n2 1;o0 0 1;m0 0;g0 0 0;");
        Check.due("the one that is no WALL", x.wave(0, 0, 0), 10);
        Check.due("toward her", x.wave(0, 10, 1), BackMarch.NONE);
    }

    private static void waveLowest() {
        BackMarch x = Check.landOf("m0 0;g6 6 0;");
        // Away along x, to x less: only from 7 .., y 5 .. 7 of x 7.
        Check.due("to 56", x.wave(0, 56, 1), 75);
        Check.due("to 65", x.wave(0, 65, 1), 67);
        Check.due("to 67", x.wave(0, 67, 1), 10);
        Check.due("to 76", x.wave(0, 76, 1), 0);
        Check.due("it stays at 66", x.wave(0, 66, 1), 66);
        // A WALL, a FOLD, a REGIMENT where she would stand.
        x = Check.landOf("o7 5 1;m0 0;g6 6 0;");
        Check.due("not on the WALL", x.wave(0, 56, 1), 76);
        x = Check.landOf("o7 5 0;m0 0;g6 6 0;g7 5 9;");
        Check.due("on the FOLD, with a REGIMENT", x.wave(0, 56, 1), 75);
    }

    // wave: STATE: it MINDS nobody
    private static void waveMindsNobody() {
        BackMarch x = Check.landOf("m0 0;g1 1 0;g2 2 9;");
        Check.due("MINDS nobody", x.wave(1, 22, 0), BackMarch.STATE);
        Check.due("BAD ahead of it, n", x.wave(1, 22, 21), BackMarch.BAD);
        Check.due("BAD ahead of it, the cell", x.wave(1, 88, 0), BackMarch.BAD);
        x.seesOff(0, 9);
        Check.due("released", x.wave(0, 11, 0), BackMarch.STATE);
        x.seesOff(1, 0);
        Check.due("seen off", x.wave(1, 22, 0), 0);
    }

    // DEAL of k (0 .. 4)
    private static void dealOfNoMirrors() {
        Check.due("of no REGIMENTS", new BackMarch().deal(0, 20), 0);
        BackMarch x = Check.landOf("o2 0 0;m0 0;g1 0 0;");
        x.deals(0, 1);
        Check.due("none of one", x.deal(0, 20), 0);
        Check.due("k -1", x.deal(-1, 0), BackMarch.BAD);
    }

    private static void dealOfAll() {
        StringBuilder text = new StringBuilder("m0 0;");
        for (int g = 0; g < 4; g++) {
            text.append("g").append(g + 1).append(" 0 0;");
            BackMarch x = Check.landOf(text.toString());
            Check.due("all of " + (g + 1), x.deal(g + 1, 20), (2 << g) - 1);
            Check.due("none of " + (g + 1), x.deal(0, 20), 0);
        }
    }

    // DEAL: NONE (there are not so many)
    private static void dealTooMany() {
        StringBuilder text = new StringBuilder("m0 0;");
        for (int there = 0; there < 4; there++) {
            BackMarch x = Check.landOf(text.toString());
            for (int k = there + 1; k <= 4; k++) {
                Check.due(k + " of " + there, x.deal(k, 20), BackMarch.NONE);
            }
            Check.due("5 of " + there, x.deal(5, 20), BackMarch.BAD);
            text.append("g3 3 0;");
        }
    }

    // DEAL: n (0 .. 20)
    private static void dealInNoSteps() {
        BackMarch x = Check.landOf("o2 2 0;m0 0;m0 2;g1 0 0;g1 2 1;");
        Check.due("in no STEPS all are as good", x.deal(1, 0), 1);
        Check.due("in one it is the other", x.deal(1, 1), 2);
        Check.due("in 20, too", x.deal(1, 20), 2);
        Check.due("n -1", x.deal(1, -1), BackMarch.BAD);
        Check.due("n 21", x.deal(1, 21), BackMarch.BAD);
    }

    // of several the least bits
    private static void dealLeastBits() {
        BackMarch x = Check.landOf("m0 0;g1 0 0;g1 2 0;g1 4 0;g1 6 0;");
        int[] due = {0, 1, 3, 7, 15};
        for (int k = 0; k <= 4; k++) {
            Check.due("no FOLDS, k " + k, x.deal(k, 20), due[k]);
        }
        x = Check.landOf("o2 0 0;o2 2 0;o2 4 0;m0 0;m0 2;m0 4;g7 7 0;g1 0 0;g1 2 1;g1 4 2;");
        Check.due("one of three", x.deal(1, 1), 2);
        Check.due("two of three", x.deal(2, 1), 6);
        Check.due("all three", x.deal(3, 1), 14);
    }

    private static void dealLate() {
        // Found by search: only in the 16th STEP it shows that the first should have the one MIRROR.
        BackMarch x = Check.landOf("m5 0;m7 5;g6 4 1;g4 2 0;g6 4 1;g4 2 0;o2 4 0;o4 4 0;o3 6 1;o3 3 1;o5 4 0;"
                + "o0 4 0;o1 4 0;o3 4 0;o5 2 1;o0 0 0;o6 3 0;");
        for (int n = 6; n <= 20; n++) {
            Check.due("deal(1, " + n + ")", x.deal(1, n), n < 16 ? 4 : 1);
            Check.due("deal(2, " + n + ")", x.deal(2, n), 5);
        }
    }

    // ODDS
    private static void oddsOfNoMothers() {
        BackMarch x = new BackMarch();
        for (int tenths = 0; tenths <= 10; tenths++) {
            for (int k = 0; k <= 4; k++) {
                ratio(x, tenths, k, 1, 1);
            }
        }
    }

    // x (0 .. 10)
    private static void oddsOfNoneAndAll() {
        StringBuilder text = new StringBuilder();
        for (int mothers = 1; mothers <= 4; mothers++) {
            text.append("m0 0;");
            BackMarch x = Check.landOf(text.toString());
            for (int k = 0; k <= 4; k++) {
                ratio(x, 0, k, 1, 1);
                ratio(x, 10, k, k >= mothers ? 1 : 0, 1);
            }
            Check.due("x -1", x.odds(-1, 0, 0), BackMarch.BAD);
            Check.due("x 11", x.odds(11, 0, 0), BackMarch.BAD);
            Check.due("k -1", x.odds(0, -1, 0), BackMarch.BAD);
            Check.due("k 5", x.odds(0, 5, 0), BackMarch.BAD);
        }
    }

    // that k at most do
    private static void oddsOfAsManyAsThereAre() {
        BackMarch x = Check.landOf("m0 0;m0 0;");
        ratio(x, 3, 0, 49, 100);
        ratio(x, 3, 1, 91, 100);
        ratio(x, 3, 2, 1, 1);
        ratio(x, 3, 3, 1, 1);
        ratio(x, 3, 4, 1, 1);
    }

    // in least terms
    private static void oddsLeastTerms() {
        BackMarch x = Check.landOf("m0 0;m0 0;m0 0;m0 0;");
        ratio(x, 9, 0, 1, 10000);
        ratio(x, 9, 3, 3439, 10000);
        ratio(x, 5, 0, 1, 16);
        ratio(x, 5, 1, 5, 16);
        ratio(x, 5, 2, 11, 16);
        ratio(x, 5, 3, 15, 16);
        ratio(x, 8, 0, 1, 625);
        ratio(x, 2, 0, 256, 625);
    }

    private static void ratio(BackMarch x, int tenths, int k, int upper, int lower) {
        Check.due("upper of odds(" + tenths + ", " + k + ")", x.odds(tenths, k, 0), upper);
        Check.due("lower of odds(" + tenths + ", " + k + ")", x.odds(tenths, k, 1), lower);
    }

    // WATCHED (6 at most)
    private static void watchedSix() {
        BackMarch x = Check.landOf("m0 0;g1 0 0;g2 2 9;");
        Check.due("forget() of none", x.forget(), 0);
        for (int i = 1; i <= 6; i++) {
            Check.due("WATCHED " + i, x.watches(i % 2, i, 10), i);
        }
        Check.due("a seventh", x.watches(0, 0, 10), BackMarch.FULL);
        Check.due("a seventh that is BAD", x.watches(0, 0, 8), BackMarch.BAD);
        Check.due("six still", x.count(4), 6);
        Check.due("forget() of six", x.forget(), 6);
        Check.due("the first anew", x.watches(0, 0, 10), 1);
        // The sixth counts as the first does, the seventh not at all.
        x = Check.landOf("m0 0;m7 0;g3 0 0;");
        for (int i = 1; i <= 5; i++) {
            x.watches(0, 0, 30);
        }
        Check.due("five", x.faced(0), 3);
        x.watches(0, 1, 20);
        Check.due("six", x.faced(0), 2);
        x.watches(0, 1, 40);
        Check.due("seven", x.faced(0), 2);
    }

    // behind n (0 .. 20) STEPS a REGIMENT would be at a CELL
    private static void watchedBehindTwenty() {
        BackMarch x = allMirrored("o5 3 0;o5 2 0;o4 1 1;m3 3;m4 3;g4 3 0;");
        Check.due("behind 20", x.watches(0, 20, 43), 1);
        Check.due("it is there then, and stays by the other", x.faced(0), 3);
        x.forget();
        x.watches(0, 20, 42);
        Check.due("behind 20 elsewhere", x.faced(0), 0);
        x.forget();
        x.watches(0, 19, 43);
        Check.due("behind 19 only by the other", x.faced(0), 2);
        x.forget();
        x.watches(0, 0, 43);
        Check.due("behind 0", x.faced(0), 3);
        x.watches(0, 0, 42);
        Check.due("behind 0 elsewhere", x.faced(0), 0);
        Check.due("n 21", x.watches(0, 21, 43), BackMarch.BAD);
        Check.due("n -1", x.watches(0, -1, 43), BackMarch.BAD);
    }

    // MINDED: all that was WATCHED of it is so
    private static void mindedOfNothingWatched() {
        StringBuilder text = new StringBuilder("g3 3 9;");
        for (int mothers = 0; mothers <= 4; mothers++) {
            Check.due("of " + mothers, Check.landOf(text.toString()).faced(0), (1 << mothers) - 1);
            text.append("m0 0;");
        }
    }

    private static void mindedOfAnotherWatched() {
        BackMarch x = Check.landOf("m0 0;g1 0 0;g5 5 9;");
        x.watches(1, 0, 0);
        Check.due("of the other", x.faced(0), 1);
        Check.due("of itself", x.faced(1), 0);
    }

    private static void mindedOfWhatCannotBe() {
        BackMarch x = Check.landOf("o2 0 1;m0 0;g1 0 0;");
        x.watches(0, 1, 20);
        Check.due("on a WALL", x.faced(0), 0);
        x.forget();
        x.watches(0, 1, 10);
        Check.due("where it stays", x.faced(0), 1);
        x.watches(0, 2, 11);
        Check.due("all of it, not one", x.faced(0), 0);
    }

    // from NOW as it is when MINDED, LOOK are asked
    private static void mindedFromNow() {
        BackMarch x = Check.landOf("m0 0;m7 0;g3 0 0;");
        x.watches(0, 1, 40);
        Check.due("NOW", x.faced(0), 1);
        x.step();
        Check.due("behind a step", x.faced(0), 0);
        x.seesOff(0, 1);
        x.step();
        Check.due("back where it was", x.faced(0), 1);
        x.walks(0, 3);
        x.walks(0, 3);
        x.walks(0, 3);
        Check.due("she walks: along x still", x.faced(0), 1);
        x.walks(0, 3);
        Check.due("she walks on: along y", x.faced(0), 0);
    }

    // LOOK: NONE (one can be at most)
    private static void lookWhenOneCanBe() {
        Check.due("of no MOTHERS", Check.landOf("g1 0 9;").look(0), BackMarch.NONE);
        Check.due("of one", Check.landOf("m0 0;g1 0 9;").look(0), BackMarch.NONE);
        BackMarch x = Check.landOf("m0 0;m7 0;g3 0 0;");
        Check.due("of two", x.look(0), 1);
        x.watches(0, 1, 40);
        Check.due("of two, one can be", x.look(0), BackMarch.NONE);
        x.watches(0, 1, 20);
        Check.due("of two, none can be", x.look(0), BackMarch.NONE);
    }

    // of several the lowest
    private static void lookNeverApart() {
        Check.due("four as one", Check.landOf("m0 0;m0 0;m0 0;m0 0;g1 0 0;").look(0), 0);
        Check.due("three as one, ever", Check.landOf("m0 0;m0 0;m0 0;m7 0;g1 0 0;").look(0), 1);
        BackMarch x = Check.landOf("m0 0;m7 0;m7 7;m0 7;g3 3 0;");
        x.watches(0, 0, 33);
        Check.due("a pair never apart", x.look(0), 1);
    }

    private static void lookAtOnce() {
        // In one cell none goes: all as one for good.
        Check.due("in one cell", Check.landOf("n1 1;m0 0;m0 0;g0 0 0;").look(0), 0);
        // Where all of them say that it stays.
        Check.due("walled in", Check.landOf("n3 1;o0 0 1;o2 0 1;m0 0;m2 0;g1 0 0;").look(0), 0);
    }

    // LOOK: the n (0 .. 20)
    private static void lookBehindTwenty() {
        // Both found by search: apart first behind 20 STEPS; apart first behind 21, so not at all.
        BackMarch x = allMirrored("m3 1;m2 4;m1 4;m2 6;g3 0 2;g3 2 1;g2 0 3;g5 7 3;");
        Check.due("behind 20", x.look(0), 20);
        x = allMirrored("m5 0;m6 1;g1 5 1;g5 3 1;g5 3 1;g0 7 1;o0 2 1;o2 0 0;o2 5 0;o3 6 0;o4 3 0;o5 4 0;o6 5 1;");
        Check.due("behind 21", x.look(2), 0);
    }
}
