/** The bounds that section 1 of the document names, promises 1 to 8: a method for each sentence. */
public final class LandBoundsTest {
    public static void main(String[] args) {
        wideAndHighFromOneToEight();
        eightAtFirst();
        everyCellByItself();
        noCellsBeyondTheLand();
        fourMothersAtMost();
        fourRegimentsAtMost();
        severalAtOneCell();
        anyCellAtFirst();
        nobodyDownAndNoMirrorsAtFirst();
        lettersTo255();
        textOf120Letters();
        clearOfAnEmptyText();
        blanksOfAnyNumber();
        blanksBetweenNumbersAlone();
        noItems();
        eachItemEnded();
        sizeFirstOfAll();
        toldAgain();
        mothersToldAhead();
        nobodyIsNine();
        numbersBeyond();
        numbersAbove99();
        zerosAhead();
        anyOtherLetter();
        anyLetterBehindAnItem();
        endsTooEarly();
        theFirstOfSeveralFaults();
        landEmptiesTheText();
        readAnew();
        Check.end("LandBoundsTest");
    }

    // x 0 .. WIDE less 1, y 0 .. HIGH less 1 (1 .. 8 each)
    private static void wideAndHighFromOneToEight() {
        for (int wide = 1; wide <= 8; wide++) {
            for (int high = 1; high <= 8; high++) {
                BackMarch x = Check.landOf("n" + wide + " " + high + ";");
                Check.due("WIDE", x.count(0), wide);
                Check.due("HIGH", x.count(1), high);
                Check.due("the last cell", x.cell(10 * (wide - 1) + high - 1, 0), 0);
                Check.due("the first x beyond", x.cell(10 * wide, 0), BackMarch.BAD);
                Check.due("the first y beyond", x.cell(high, 0), BackMarch.BAD);
            }
        }
        faults("n0 8;", 1);
        faults("n8 0;", 3);
        faults("n9 8;", 1);
        faults("n8 9;", 3);
        faults("n10 8;", 1);
        faults("n8 99;", 3);
    }

    // 8 at first
    private static void eightAtFirst() {
        BackMarch x = new BackMarch();
        Check.due("WIDE at first", x.count(0), 8);
        Check.due("HIGH at first", x.count(1), 8);
        Check.due("n1 1;", Check.read(x, "n1 1;"), 1);
        Check.due("m7 7;", Check.read(x, "m7 7;"), 1);
        Check.due("WIDE if not told", x.count(0), 8);
        Check.due("HIGH if not told", x.count(1), 8);
    }

    // A CELL is told as 10 times x and y.
    private static void everyCellByItself() {
        for (int cell = 0; cell <= 77; cell++) {
            if (cell % 10 < 8) {
                String place = cell / 10 + " " + cell % 10;
                onlyOne(Check.landOf("o" + place + " 0;"), cell, 0, 1);
                onlyOne(Check.landOf("o" + place + " 1;"), cell, 0, 2);
                onlyOne(Check.landOf("g" + place + " 9;"), cell, 1, 1);
                onlyOne(Check.landOf("g" + place + " 9;"), cell, 2, 1);
                Check.due("mother at " + place, Check.landOf("m" + place + ";").mother(0, 0), cell);
                Check.due("regiment at " + place, Check.landOf("g" + place + " 9;").regiment(0, 0), cell);
            }
        }
    }

    private static void onlyOne(BackMarch x, int one, int what, int answer) {
        for (int cell = 0; cell <= 77; cell++) {
            if (cell % 10 < 8) {
                Check.due("cell(" + cell + ", " + what + ") where " + one + " is told", x.cell(cell, what),
                        cell == one ? answer : 0);
            }
        }
    }

    // BAD (there is no such thing)
    private static void noCellsBeyondTheLand() {
        BackMarch x = Check.landOf("n5 4;");
        for (int cell = -210; cell <= 210; cell++) {
            boolean there = cell >= 0 && cell / 10 < 5 && cell % 10 < 4;
            Check.due("cell(" + cell + ", 0)", x.cell(cell, 0), there ? 0 : BackMarch.BAD);
        }
        Check.due("cell(least, 0)", x.cell(Integer.MIN_VALUE, 0), BackMarch.BAD);
        Check.due("cell(greatest, 0)", x.cell(Integer.MAX_VALUE, 0), BackMarch.BAD);
    }

    // MOTHERS 0 .. (4 at most)
    private static void fourMothersAtMost() {
        String four = "m0 1;m2 3;m4 5;m6 7;";
        BackMarch x = Check.landOf(four);
        Check.due("MOTHERS", x.count(2), 4);
        for (int m = 0; m < 4; m++) {
            Check.due("mother(" + m + ", 0)", x.mother(m, 0), 22 * m + 1);
            Check.due("mother(" + m + ", 1)", x.mother(m, 1), 0);
        }
        Check.due("mother(4, 0)", x.mother(4, 0), BackMarch.BAD);
        faults(four + "m0 0;", 20);
        faults(four + "o0 0 0;m", 27);
        Check.due("none", new BackMarch().mother(0, 0), BackMarch.BAD);
    }

    // REGIMENTS 0 .. (4 at most)
    private static void fourRegimentsAtMost() {
        String four = "g0 1 9;g2 3 9;g4 5 9;g6 7 9;";
        BackMarch x = Check.landOf(four);
        Check.due("REGIMENTS", x.count(3), 4);
        for (int g = 0; g < 4; g++) {
            Check.due("regiment(" + g + ", 0)", x.regiment(g, 0), 22 * g + 1);
        }
        Check.due("regiment(4, 0)", x.regiment(4, 0), BackMarch.BAD);
        faults(four + "g0 0 9;", 28);
        faults(four + "m0 0;g", 33);
        Check.due("none", new BackMarch().regiment(0, 0), BackMarch.BAD);
    }

    // several may be at one at first
    private static void severalAtOneCell() {
        BackMarch x = Check.landOf("m3 4;m3 4;m3 4;m3 4;g3 4 0;g3 4 1;g3 4 2;g3 4 9;");
        Check.due("all REGIMENTS at one", x.cell(34, 2), 15);
        Check.due("one cell KNOWN", x.now(0), 1);
        for (int m = 0; m < 4; m++) {
            Check.due("all MOTHERS at one", x.mother(m, 0), 34);
        }
    }

    // CELL each (any)
    private static void anyCellAtFirst() {
        BackMarch x = Check.landOf("n2 1;o0 0 1;o1 0 0;m0 0;m1 0;g0 0 0;g1 0 1;");
        Check.due("a MOTHER on a WALL", x.mother(0, 0), 0);
        Check.due("a MOTHER on a FOLD", x.mother(1, 0), 10);
        Check.due("a REGIMENT on a WALL", x.regiment(0, 0), 0);
        Check.due("a REGIMENT on a FOLD", x.regiment(1, 0), 10);
        Check.due("a WALL KNOWN at first", x.cell(0, 1), 1);
    }

    // None is DOWN, has a MIRROR, at first.
    private static void nobodyDownAndNoMirrorsAtFirst() {
        BackMarch x = Check.landOf("o3 3 0;m3 3;g3 3 0;g3 3 9;");
        Check.due("MIRRORS at first", x.now(1), 0);
        Check.due("DOWN at first", x.now(2), 0);
        Check.due("UNDONE at first", x.now(3), 0);
        Check.due("a mirror at first", x.regiment(0, 2), 0);
        Check.due("down at first, on a FOLD", x.regiment(0, 3), 0);
    }

    // A letter (0 .. 255)
    private static void lettersTo255() {
        BackMarch x = new BackMarch();
        Check.due("type(-1)", x.type(-1), BackMarch.BAD);
        Check.due("type(256)", x.type(256), BackMarch.BAD);
        Check.due("type(0)", x.type(0), 1);
        Check.due("type(255)", x.type(255), 2);
        // An int whose last bits would be a letter.
        Check.due("type(256 + 'n')", x.type(256 + 'n'), BackMarch.BAD);
        Check.due("type(65536 + 'n')", x.type(65536 + 'n'), BackMarch.BAD);
        Check.due("letters", x.count(5), 2);
    }

    // 120 letters at most
    private static void textOf120Letters() {
        BackMarch x = new BackMarch();
        Check.type(x, " ".repeat(114) + "m6 5;");
        Check.due("the 120th", x.type(' '), 120);
        Check.due("the 121st", x.type('m'), BackMarch.FULL);
        Check.due("the 122nd", x.type(' '), BackMarch.FULL);
        Check.due("letters", x.count(5), 120);
        Check.due("land() of 120", x.land(), 1);
        Check.due("the MOTHER", x.mother(0, 0), 65);
        Check.due("the first anew", x.type(' '), 1);
    }

    // how many letters it had
    private static void clearOfAnEmptyText() {
        BackMarch x = new BackMarch();
        Check.due("clear() of none", x.clear(), 0);
        x.type(';');
        Check.due("clear() of one", x.clear(), 1);
        Check.due("clear() of none again", x.clear(), 0);
    }

    // blanks (32), any number, ahead of, between, behind TOKENS
    private static void blanksOfAnyNumber() {
        reads("m 0" + " ".repeat(100) + "0 ;", 1);
        reads(" ".repeat(115) + "m0 0;", 1);
        reads("m0 0;" + " ".repeat(115), 1);
        reads(" n  8  8  ;  o  0  0  0  ;  m  0  0  ;  g  0  0  0  ; ", 4);
        faults("m0 0;" + " ".repeat(114) + "m", 120);
        faults("m" + (char) 9 + "0 0;", 1);
        faults("m0" + (char) 160 + "0;", 2);
    }

    // needed only between two NUMBERS
    private static void blanksBetweenNumbersAlone() {
        reads("n8 8;o0 0 0;m0 0;g0 0 0;", 4);
        faults("n88;", 1);
        faults("n88 8;", 1);
        faults("o000;", 1);
        faults("o0 00;", 3);
        faults("o7 77;", 3);
        faults("g7 79;", 3);
        faults("m12;", 1);
        faults("m7;", 2);
    }

    // ITEMS (none, too)
    private static void noItems() {
        BackMarch x = Check.landOf("n2 3;o0 0 1;m1 1;g1 2 0;");
        Check.due("land() of no ITEMS", x.land(), 0);
        Check.due("WIDE", x.count(0), 8);
        Check.due("HIGH", x.count(1), 8);
        Check.due("MOTHERS", x.count(2), 0);
        Check.due("REGIMENTS", x.count(3), 0);
        Check.due("the wall", x.cell(0, 0), 0);
        Check.due("KNOWN", x.now(0), 0);
        reads(" ", 0);
        reads(" ".repeat(120), 0);
        faults(";", 0);
        faults("  ;", 2);
    }

    // each ended by ;
    private static void eachItemEnded() {
        reads("n8 8;" + "m0 0;".repeat(4) + "g0 0 9;".repeat(4) + "o0 0 0;".repeat(9), 18);
        reads("o0 0 0;".repeat(17), 17);
        faults("n8 8 m0 0;", 5);
        faults("m0 0 m0 0;", 5);
        faults("o0 0 0 o0 0 0;", 7);
        faults("g0 0 9 9;", 7);
        faults("m0 0;;", 5);
    }

    // the first of all, if it is told; n behind another ITEM
    private static void sizeFirstOfAll() {
        reads("   n8 8;", 1);
        faults("n8 8;n8 8;", 5);
        faults("o0 0 0;n8 8;", 7);
        faults("m0 0;n8 8;", 5);
        faults("g0 0 9;n8 8;", 7);
        faults("m0 0; n", 6);
    }

    // told again: the later
    private static void toldAgain() {
        Check.due("a WALL made a FOLD", Check.landOf("o4 3 1;o4 3 0;").cell(43, 0), 1);
        Check.due("a FOLD made a WALL", Check.landOf("o4 3 0;o4 3 1;").cell(43, 0), 2);
        Check.due("a FOLD, WALL, FOLD", Check.landOf("o4 3 0;o4 3 1;o4 3 0;").cell(43, 0), 1);
        Check.due("a WALL, FOLD, WALL", Check.landOf("o4 3 1;o4 3 0;o4 3 1;").cell(43, 0), 2);
        BackMarch x = Check.landOf("o4 3 1;o4 3 0;m2 3;g3 3 0;");
        Check.due("one goes into it", x.step(), 1);
        Check.due("and is down", x.now(2), 1);
        x = Check.landOf("o4 3 0;o4 3 1;m2 3;g3 3 0;");
        Check.due("none goes into it", x.step(), 0);
    }

    // MINDS a MOTHER told ahead; a MOTHER that there is not
    private static void mothersToldAhead() {
        StringBuilder mothers = new StringBuilder();
        for (int there = 0; there <= 4; there++) {
            for (int m = 0; m <= 8; m++) {
                String text = mothers + "g0 0 " + m + ";";
                if (m < there) {
                    Check.due("whom in " + text, Check.landOf(text).regiment(0, 1), m);
                } else {
                    faults(text, text.length() - 2);
                }
            }
            mothers.append("m0 0;");
        }
        faults("m0 0;g0 0 1;m0 0;", 10);
    }

    // or 9: nobody
    private static void nobodyIsNine() {
        Check.due("without MOTHERS", Check.landOf("g0 0 9;").regiment(0, 1), BackMarch.NONE);
        BackMarch x = Check.landOf("m0 0;m0 0;m0 0;m0 0;g0 0 9;");
        Check.due("with four", x.regiment(0, 1), BackMarch.NONE);
        Check.due("minds none of them", x.mother(0, 1), 0);
        faults("g0 0 10;", 5);
        faults("g0 0 09;", 5);
    }

    // a cell (that there is not), a NUMBER beyond what it may be
    private static void numbersBeyond() {
        reads("n6 5;o5 4 1;m5 4;g5 4 0;", 4);
        faults("n6 5;o6 4 1;", 6);
        faults("n6 5;o5 5 1;", 8);
        faults("n6 5;m6 4;", 6);
        faults("n6 5;m5 5;", 8);
        faults("n6 5;g6 4 9;", 6);
        faults("n6 5;g5 5 9;", 8);
        faults("o7 7 2;", 5);
        faults("o8 7 1;", 1);
        faults("o7 8 1;", 3);
        faults("o99 0 0;", 1);
    }

    // a NUMBER above 99
    private static void numbersAbove99() {
        faults("m99 0;", 1);
        faults("m100 0;", 1);
        faults("m0 100;", 3);
        faults("100", 0);
        faults("m0 0 100", 5);
        // Numbers that ints, longs would hold as 1, 0.
        faults("n4294967297 1;", 1);
        faults("m0 4294967296;", 3);
        faults("n18446744073709551617 1;", 1);
        faults("n1 1" + "0".repeat(116), 3);
        faults("n" + "9".repeat(119), 1);
    }

    // (a NUMBER) with a 0 ahead of others
    private static void zerosAhead() {
        reads("m0 0;", 1);
        faults("m00 0;", 1);
        faults("m0 00;", 3);
        faults("m0 01;", 3);
        faults("n08 8;", 1);
        faults("o1 1 01;", 5);
        faults("m0" + "0".repeat(118), 1);
    }

    // of any other letter (FAULT is that TOKEN's)
    private static void anyOtherLetter() {
        for (int letter = 0; letter <= 255; letter++) {
            BackMarch x = new BackMarch();
            x.type(letter);
            boolean begins = letter == 'n' || letter == 'o' || letter == 'm' || letter == 'g';
            Check.due("land() of letter " + letter, x.land(), letter == ' ' ? 0 : begins ? -11 : -10);
        }
    }

    private static void anyLetterBehindAnItem() {
        for (int letter = 0; letter <= 255; letter++) {
            BackMarch x = new BackMarch();
            Check.type(x, "m0 0");
            x.type(letter);
            boolean digit = letter >= '0' && letter <= '9';
            int due = letter == ';' ? 1 : letter == ' ' ? -15 : digit ? -13 : -14;
            Check.due("land() of m0 0 and letter " + letter, x.land(), due);
        }
    }

    // the text's length, if it ends too early
    private static void endsTooEarly() {
        String text = "n8 8;o1 2 0;m3 4;g5 6 0;";
        int items = 0;
        for (int length = 0; length <= text.length(); length++) {
            String part = text.substring(0, length);
            boolean whole = length == 0 || part.charAt(length - 1) == ';';
            if (whole) {
                items += length == 0 ? 0 : 1;
                reads(part, items);
                reads(part + "  ", items);
            } else {
                faults(part, length);
                faults(part + "  ", length + 2);
            }
        }
    }

    // the first TOKEN that can't stand there
    private static void theFirstOfSeveralFaults() {
        faults("m9 9;", 1);
        faults("m9", 1);
        faults("m9 x", 1);
        faults("x m9", 0);
        faults("m0 9 100 ?", 3);
        faults("n1 1;m1 0;?", 6);
        faults("m 0 0;n", 6);
        faults("m0;x", 2);
    }

    // land: and is empty then; -10 less FAULT: THE TEXT stays, too
    private static void landEmptiesTheText() {
        BackMarch x = new BackMarch();
        Check.type(x, "m0 0");
        Check.due("too early", x.land(), -14);
        Check.due("the text stays", x.count(5), 4);
        Check.due("and goes on", x.type(';'), 5);
        Check.due("land() then", x.land(), 1);
        Check.due("is empty then", x.count(5), 0);
        Check.due("so again it tells nothing", x.land(), 0);
        Check.due("and nobody is there", x.count(2), 0);
    }

    // Read anew: as told, nothing WATCHED, IMAGES are gone, nothing can be UNDONE
    private static void readAnew() {
        BackMarch x = Check.landOf("n3 3;o0 0 0;o1 1 1;o2 0 0;m0 0;m2 2;g1 0 0;g2 2 9;");
        x.deals(1, 1);
        x.step();
        x.watches(0, 0, 0);
        x.keep(0);
        x.keep(1);
        Check.due("of nothing", x.land(), 0);
        Check.due("no FOLD", x.cell(0, 0), 0);
        Check.due("no WALL", x.cell(11, 0), 0);
        for (int what = 0; what <= 3; what++) {
            Check.due("now(" + what + ")", x.now(what), 0);
        }
        Check.due("none may be UNDONE", x.undo(), BackMarch.STATE);
        Check.due("none is WATCHED", x.forget(), 0);
        Check.due("image 0", x.back(0), BackMarch.STATE);
        Check.due("image 1", x.back(1), BackMarch.STATE);
        Check.due("the same anew", Check.read(x, "m2 2;g1 0 0;g2 2 0;"), 3);
        Check.due("KNOWN", x.now(0), 2);
        Check.due("MIRRORS", x.now(1), 0);
        Check.due("DOWN", x.now(2), 0);
    }

    private static void reads(String text, int items) {
        Check.due("land of \"" + text + "\"", Check.read(new BackMarch(), text), items);
    }

    private static void faults(String text, int place) {
        Check.due("fault of \"" + text + "\"", Check.read(new BackMarch(), text), -10 - place);
    }
}
