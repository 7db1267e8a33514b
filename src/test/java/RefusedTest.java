import java.util.ArrayList;
import java.util.List;

/** Every call with every number that is not as told: it is refused as the document orders, and nothing changes. */
public final class RefusedTest {
    private interface Call {
        long on(BackMarch x, int a, int b, int c);
    }

    /** What a number may be (its ends, and some between), and what it may not. */
    private record Numbers(int[] good, int[] bad) {
    }

    private record Row(String name, int refusal, Call call, Numbers... numbers) {
    }

    private static final Numbers LETTER = numbers("0 32 255", "-1 256 366 1000");
    private static final Numbers CELL = numbers("0 3 20 40 43", "-1 -10 4 7 8 9 44 49 50 53 80 100 1000");
    private static final Numbers MOTHER = numbers("0 1", "-1 -9 2 3 4 9 10 32 33");
    private static final Numbers MINDED = numbers("0 1 9", "-1 -9 2 3 4 8 10 32");
    private static final Numbers REGIMENT = numbers("0 1 2", "-1 -9 3 4 9 32 33");
    private static final Numbers SIDE = numbers("0 1 2 3", "-1 4 5 8");
    private static final Numbers MIRROR = numbers("0 1", "-1 2 3");
    private static final Numbers FAR = numbers("0 40", "-1 41 64");
    private static final Numbers NEAR = numbers("0 20", "-1 21 40 41");
    private static final Numbers SO_MANY = numbers("0 4", "-1 5");
    private static final Numbers TENTHS = numbers("0 10", "-1 11 100");
    private static final Numbers KIND = numbers("0 5", "-1 6 7");
    private static final Numbers IMAGE = numbers("0 1", "-1 2 3 32 33");

    private static final Row[] ROWS = {
        new Row("type", BackMarch.BAD, (x, a, b, c) -> x.type(a), LETTER),
        new Row("cell", BackMarch.BAD, (x, a, b, c) -> x.cell(a, b), CELL, upTo(2)),
        new Row("mother", BackMarch.BAD, (x, a, b, c) -> x.mother(a, b), MOTHER, upTo(1)),
        new Row("regiment", BackMarch.BAD, (x, a, b, c) -> x.regiment(a, b), REGIMENT, upTo(3)),
        new Row("now", BackMarch.BAD, (x, a, b, c) -> x.now(a), upTo(3)),
        new Row("walks", BackMarch.BAD, (x, a, b, c) -> x.walks(a, b), MOTHER, SIDE),
        new Row("seesOff", BackMarch.BAD, (x, a, b, c) -> x.seesOff(a, b), REGIMENT, MINDED),
        new Row("deals", BackMarch.BAD, (x, a, b, c) -> x.deals(a, b), REGIMENT, MIRROR),
        new Row("leads", BackMarch.BAD, (x, a, b, c) -> x.leads(a, b), REGIMENT, SIDE),
        new Row("where", BackMarch.BAD, (x, a, b, c) -> x.where(a, b), REGIMENT, FAR),
        new Row("falls", BackMarch.BAD, (x, a, b, c) -> x.falls(a), FAR),
        new Row("comes", BackMarch.BAD, (x, a, b, c) -> x.comes(a, b), REGIMENT, CELL),
        new Row("wave", BackMarch.BAD, (x, a, b, c) -> x.wave(a, b, c), REGIMENT, CELL, NEAR),
        new Row("deal", BackMarch.BAD, (x, a, b, c) -> x.deal(a, b), SO_MANY, NEAR),
        new Row("odds", BackMarch.BAD, (x, a, b, c) -> x.odds(a, b, c), TENTHS, SO_MANY, upTo(1)),
        new Row("watches", BackMarch.BAD, (x, a, b, c) -> x.watches(a, b, c), REGIMENT, NEAR, CELL),
        new Row("faced", BackMarch.BAD, (x, a, b, c) -> x.faced(a), REGIMENT),
        new Row("look", BackMarch.BAD, (x, a, b, c) -> x.look(a), REGIMENT),
        new Row("rate", BackMarch.NO, (x, a, b, c) -> x.rate(a, b), KIND, REGIMENT),
        new Row("keep", BackMarch.BAD, (x, a, b, c) -> x.keep(a), IMAGE),
        new Row("back", BackMarch.BAD, (x, a, b, c) -> x.back(a), IMAGE),
        new Row("count", BackMarch.BAD, (x, a, b, c) -> x.count(a), upTo(5)),
    };

    private static final int SIGHTS = 4;
    private static final String UNENDED = "m1 2;g3 3 0;g3 3 9";

    public static void main(String[] args) {
        badNumbers(true);
        badNumbers(false);
        stateAndFull();
        undoOfNone();
        nothingThere();
        Check.end("RefusedTest");
    }

    private static Numbers numbers(String good, String bad) {
        return new Numbers(ints(good), ints(bad + " 2147483647 -2147483648"));
    }

    private static Numbers upTo(int most) {
        StringBuilder good = new StringBuilder();
        for (int i = 0; i <= most; i++) {
            good.append(i).append(' ');
        }
        return numbers(good.toString(), "-1 " + (most + 1) + " " + (most + 2) + " 100");
    }

    private static int[] ints(String text) {
        String[] parts = text.trim().split(" ");
        int[] ints = new int[parts.length];
        for (int i = 0; i < parts.length; i++) {
            ints[i] = Integer.parseInt(parts[i]);
        }
        return ints;
    }

    /**
     * Five by four cells, two MOTHERS, three REGIMENTS: 0 MINDS, 1 and 2 MIND nobody, 2 is DOWN. THE TEXT
     * wants a ; yet. If busy: THE TEXT is full, and whole, six are WATCHED, ten may be UNDONE, image 0 is kept.
     */
    private static BackMarch start(boolean busy) {
        BackMarch x = Check.landOf("n5 4;o1 1 0;o3 3 1;m0 0;m4 3;g2 0 0;g3 1 9;g2 1 9;");
        x.leads(2, 0);
        Check.type(x, UNENDED);
        if (busy) {
            Check.type(x, ";" + " ".repeat(119 - UNENDED.length()));
            x.rate(4, 1);
            for (int i = 0; i < 5; i++) {
                x.watches(i % 3, i, 10 * i);
            }
            x.watches(0, 20, 43);
            for (int i = 0; i < 5; i++) {
                x.walks(1, 0);
                x.walks(1, 1);
            }
            x.keep(0);
            x.undo();
            x.deals(0, 1);
        }
        return x;
    }

    /** All that can be seen of an object; in several ways, as not all of them can be gone on one object. */
    private static String sight(BackMarch x, int way) {
        StringBuilder sight = new StringBuilder();
        switch (way) {
            case 0:
                outside(x, sight);
                break;
            case 1:
                for (int left = 0; left <= 10; left++) {
                    sight.append(x.undo()).append(' ');
                    bodies(x, sight, 3);
                }
                break;
            case 2:
                for (int image = 0; image <= 1; image++) {
                    sight.append(x.back(image)).append(' ');
                    places(x, sight);
                }
                for (int g = 0; g < 4; g++) {
                    sight.append(x.faced(g)).append(' ').append(x.look(g)).append(' ');
                }
                sight.append(x.forget());
                break;
            default:
                sight.append(x.type(';')).append(' ').append(x.land()).append(' ').append(x.clear());
                outside(x, sight);
                break;
        }
        return sight.toString();
    }

    private static void outside(BackMarch x, StringBuilder sight) {
        for (int cell = 0; cell <= 77; cell++) {
            for (int what = 0; what <= 2; what++) {
                sight.append(x.cell(cell, what)).append(' ');
            }
        }
        places(x, sight);
    }

    private static void places(BackMarch x, StringBuilder sight) {
        for (int i = 0; i < 6; i++) {
            sight.append(x.count(i)).append(' ').append(i < 4 ? x.now(i) : x.trace()).append(' ');
        }
        bodies(x, sight, 4);
    }

    private static void bodies(BackMarch x, StringBuilder sight, int most) {
        for (int body = 0; body < most; body++) {
            sight.append(x.mother(body, 0)).append(' ').append(x.mother(body, 1)).append(' ');
            for (int what = 0; what < 4; what++) {
                sight.append(x.regiment(body, what)).append(' ');
            }
        }
    }

    private static String[] sights(boolean busy) {
        String[] sights = new String[SIGHTS];
        for (int way = 0; way < SIGHTS; way++) {
            sights[way] = sight(start(busy), way);
        }
        return sights;
    }

    private static void refused(String told, boolean busy, String[] sights, Call call, int[] abc, long due) {
        for (int way = 0; way < SIGHTS; way++) {
            BackMarch x = start(busy);
            Check.due(told, call.on(x, abc[0], abc[1], abc[2]), due);
            if (!sight(x, way).equals(sights[way])) {
                Check.fault(told + " was refused, but changed what sight " + way + " tells");
            }
        }
    }

    /** One number at least is not as told: BAD, whatever the others are, ahead of STATE and of FULL. */
    private static void badNumbers(boolean busy) {
        String[] sights = sights(busy);
        for (Row row : ROWS) {
            for (int[] abc : choices(row, true)) {
                String told = row.name() + " " + abc[0] + " " + abc[1] + " " + abc[2];
                refused(told, busy, sights, row.call(), abc, row.refusal());
            }
            for (int[] abc : choices(row, false)) {
                String told = row.name() + " " + abc[0] + " " + abc[1] + " " + abc[2];
                long got = row.call().on(start(busy), abc[0], abc[1], abc[2]);
                if (got == row.refusal()) {
                    Check.fault(told + " answered " + got + ", but is as told");
                }
            }
        }
    }

    /** All choices of numbers, with a bad one at least, or good ones alone. */
    private static List<int[]> choices(Row row, boolean bad) {
        List<int[]> choices = new ArrayList<>();
        choices.add(new int[] {0, 0, 0, 0});
        for (int i = 0; i < row.numbers().length; i++) {
            List<int[]> longer = new ArrayList<>();
            for (int[] one : choices) {
                for (int number : row.numbers()[i].good()) {
                    longer.add(with(one, i, number, 0));
                }
                for (int number : row.numbers()[i].bad()) {
                    longer.add(with(one, i, number, 1));
                }
            }
            choices = longer;
        }
        choices.removeIf(one -> one[3] > 0 != bad);
        return choices;
    }

    private static int[] with(int[] one, int place, int number, int bad) {
        int[] longer = one.clone();
        longer[place] = number;
        longer[3] += bad;
        return longer;
    }

    private static void stateAndFull() {
        String[] busy = sights(true);
        String[] calm = sights(false);
        none(calm, false, "walks(0, 0) off THE LAND", (x, a, b, c) -> x.walks(0, 0), BackMarch.STATE);
        none(calm, false, "walks(0, 2) off THE LAND", (x, a, b, c) -> x.walks(0, 2), BackMarch.STATE);
        none(calm, false, "walks(1, 1) off THE LAND", (x, a, b, c) -> x.walks(1, 1), BackMarch.STATE);
        none(calm, false, "walks(1, 3) off THE LAND", (x, a, b, c) -> x.walks(1, 3), BackMarch.STATE);
        none(calm, false, "walks(1, 0) into a WALL", (x, a, b, c) -> x.walks(1, 0), BackMarch.STATE);
        none(calm, false, "seesOff(0, 0) as it is", (x, a, b, c) -> x.seesOff(0, 0), BackMarch.STATE);
        none(calm, false, "seesOff(1, 9) as it is", (x, a, b, c) -> x.seesOff(1, 9), BackMarch.STATE);
        none(calm, false, "deals(0, 0) as it is", (x, a, b, c) -> x.deals(0, 0), BackMarch.STATE);
        none(busy, true, "deals(0, 1) as it is", (x, a, b, c) -> x.deals(0, 1), BackMarch.STATE);
        for (int i = 0; i < 4; i++) {
            int side = i;
            none(calm, false, "leads(0) MINDS, side " + i, (x, a, b, c) -> x.leads(0, side), BackMarch.STATE);
            none(calm, false, "leads(2) DOWN, side " + i, (x, a, b, c) -> x.leads(2, side), BackMarch.STATE);
        }
        none(calm, false, "wave(1, 31, 0): MINDS nobody", (x, a, b, c) -> x.wave(1, 31, 0), BackMarch.STATE);
        none(busy, true, "wave(2, 11, 20): MINDS nobody", (x, a, b, c) -> x.wave(2, 11, 20), BackMarch.STATE);
        none(calm, false, "back(0) of none", (x, a, b, c) -> x.back(0), BackMarch.STATE);
        none(busy, true, "back(1) of none", (x, a, b, c) -> x.back(1), BackMarch.STATE);
        none(busy, true, "type of a 121st", (x, a, b, c) -> x.type('n'), BackMarch.FULL);
        none(busy, true, "watches of a seventh", (x, a, b, c) -> x.watches(0, 0, 20), BackMarch.FULL);
        none(calm, false, "land() of a FAULT", (x, a, b, c) -> x.land(), -10 - UNENDED.length());
    }

    private static void none(String[] sights, boolean busy, String told, Call call, long due) {
        refused(told, busy, sights, call, new int[3], due);
    }

    private static void undoOfNone() {
        for (int way = 0; way < SIGHTS; way++) {
            BackMarch x = start(false);
            BackMarch y = start(false);
            Check.due("undo() of one", x.undo(), 0);
            Check.due("undo() of one", y.undo(), 0);
            Check.due("undo() of none", y.undo(), BackMarch.STATE);
            if (!sight(x, way).equals(sight(y, way))) {
                Check.fault("undo() of none changed what sight " + way + " tells");
            }
        }
    }

    /** In a new object there are no MOTHERS, no REGIMENTS: all numbers of theirs are BAD. */
    private static void nothingThere() {
        for (int body = -1; body <= 9; body++) {
            BackMarch x = new BackMarch();
            Check.due("mother", x.mother(body, 0), BackMarch.BAD);
            Check.due("regiment", x.regiment(body, 0), BackMarch.BAD);
            Check.due("walks", x.walks(body, 0), BackMarch.BAD);
            Check.due("seesOff", x.seesOff(body, 9), BackMarch.BAD);
            Check.due("deals", x.deals(body, 1), BackMarch.BAD);
            Check.due("leads", x.leads(body, 0), BackMarch.BAD);
            Check.due("where", x.where(body, 0), BackMarch.BAD);
            Check.due("comes", x.comes(body, 0), BackMarch.BAD);
            Check.due("wave", x.wave(body, 0, 0), BackMarch.BAD);
            Check.due("watches", x.watches(body, 0, 0), BackMarch.BAD);
            Check.due("faced", x.faced(body), BackMarch.BAD);
            Check.due("look", x.look(body), BackMarch.BAD);
            Check.due("rate", x.rate(0, body), BackMarch.NO);
            Check.due("undo", x.undo(), BackMarch.STATE);
        }
    }
}
