/** Many runs of 512 calls at most, each call asked of BackMarch and of Model. */
public final class ModelTest {
    private static final String[] ITEMS = {"o", "o", "o", "o", "o", "m", "m", "m", "g", "g", "g"};
    private static final int[] ODD_NUMBERS = {-1, 9, 10, 99, 100, -9, 8, 4, 41, 21, 256, 1000000007,
        Integer.MAX_VALUE, Integer.MIN_VALUE};

    private long seed;

    private ModelTest(long seed) {
        this.seed = seed * 7919 + 17;
    }

    public static void main(String[] args) {
        int runs = args.length > 0 ? Integer.parseInt(args[0]) : 1500;
        for (int run = 1; run <= runs && Check.wrongs() == 0; run++) {
            new ModelTest(run).run(run);
        }
        Check.end("ModelTest");
    }

    private int pick(int below) {
        seed = seed * 6364136223846793005L + 1442695040888963407L;
        return (int) Math.floorMod(seed >>> 33, (long) below);
    }

    private void run(int run) {
        BackMarch x = new BackMarch();
        Model model = new Model();
        int calls = 0;
        int steps = pick(4);
        while (calls < 500) {
            if (calls == 0 || pick(120) == 0) {
                String text = pick(4) == 0 ? brokenText() : text();
                for (int i = 0; i < text.length() && calls < 500; i++) {
                    Check.due(run + " type", x.type(text.charAt(i)), model.type(text.charAt(i)));
                    calls++;
                }
                Check.due(run + " land of " + text, x.land(), model.land());
                calls++;
                if (pick(3) == 0 || x.count(5) > 100) {
                    Check.due(run + " clear", x.clear(), model.clear());
                    calls++;
                }
            } else {
                call(run, x, model, steps);
                calls++;
            }
            if (pick(3) == 0) {
                compare(run, x, model);
            }
        }
    }

    private String text() {
        StringBuilder text = new StringBuilder();
        int wide = 8;
        int high = 8;
        if (pick(2) == 0) {
            wide = 1 + pick(8);
            high = 1 + pick(8);
            text.append("n").append(wide).append(" ").append(high).append(";");
        }
        int mothers = 0;
        int regiments = 0;
        while (true) {
            String item = ITEMS[pick(ITEMS.length)];
            if (text.length() < 14) {
                item = "m";
            }
            if (item.equals("m") && mothers == 4 || item.equals("g") && regiments == 4) {
                item = "o";
            }
            String whole = item + gap() + pick(wide) + " " + pick(high);
            if (item.equals("o")) {
                whole += " " + (pick(3) == 0 ? 1 : 0);
            } else if (item.equals("g")) {
                whole += " " + (mothers == 0 || pick(6) == 0 ? 9 : pick(mothers));
            }
            whole += gap() + ";";
            if (text.length() + whole.length() > 120) {
                return text.toString();
            }
            mothers += item.equals("m") ? 1 : 0;
            regiments += item.equals("g") ? 1 : 0;
            text.append(whole);
        }
    }

    private String gap() {
        return pick(12) == 0 ? " " : "";
    }

    private String brokenText() {
        StringBuilder text = new StringBuilder(text());
        int often = 1 + pick(3);
        for (int i = 0; i < often && text.length() > 0; i++) {
            int at = pick(text.length());
            switch (pick(4)) {
                case 0:
                    text.setLength(at);
                    break;
                case 1:
                    text.deleteCharAt(at);
                    break;
                case 2:
                    text.setCharAt(at, "nomg;0123456789 x".charAt(pick(17)));
                    break;
                default:
                    if (text.length() < 120) {
                        text.insert(at, "nomg;0123456789 x".charAt(pick(17)));
                    }
                    break;
            }
        }
        return text.toString();
    }

    private int number(int most) {
        return pick(25) == 0 ? ODD_NUMBERS[pick(ODD_NUMBERS.length)] : pick(most + 1);
    }

    private int cell(BackMarch x) {
        if (pick(2) == 0) {
            int g = pick(4);
            int there = x.where(g, pick(12));
            return there >= 0 ? there : pick(80);
        }
        return pick(25) == 0 ? ODD_NUMBERS[pick(ODD_NUMBERS.length)] : 10 * pick(8) + pick(8);
    }

    private void call(int run, BackMarch x, Model model, int steps) {
        int which = pick(27 + 3 * steps);
        int a = number(3);
        int b = number(3);
        int what = number(2);
        int near = number(20);
        int cell = cell(x);
        switch (which) {
            case 0:
                Check.due(run + " cell " + cell + " " + what, x.cell(cell, what), model.cell(cell, what));
                break;
            case 1:
                Check.due(run + " mother " + a + " " + what, x.mother(a, what), model.mother(a, what));
                break;
            case 2:
                Check.due(run + " regiment " + a + " " + b, x.regiment(a, b), model.regiment(a, b));
                break;
            case 3:
                Check.due(run + " now " + a, x.now(a), model.now(a));
                break;
            case 4:
                Check.due(run + " walks " + a + " " + b, x.walks(a, b), model.walks(a, b));
                break;
            case 5:
                int m = pick(4) == 0 ? 9 : b;
                Check.due(run + " seesOff " + a + " " + m, x.seesOff(a, m), model.seesOff(a, m));
                break;
            case 6:
                Check.due(run + " deals " + a + " " + what, x.deals(a, what), model.deals(a, what));
                break;
            case 7:
            case 8:
                Check.due(run + " leads " + a + " " + b, x.leads(a, b), model.leads(a, b));
                break;
            case 9:
                Check.due(run + " undo", x.undo(), model.undo());
                break;
            case 10:
                int far = number(40);
                Check.due(run + " where " + a + " " + far, x.where(a, far), model.where(a, far));
                break;
            case 11:
                int n = number(40);
                Check.due(run + " falls " + n, x.falls(n), model.falls(n));
                break;
            case 12:
                Check.due(run + " comes " + a + " " + cell, x.comes(a, cell), model.comes(a, cell));
                break;
            case 13:
                int soon = pick(3) == 0 ? near : pick(5);
                Check.due(run + " wave " + a + " " + cell + " " + soon, x.wave(a, cell, soon),
                        model.wave(a, cell, soon));
                break;
            case 14:
                int k = number(4);
                Check.due(run + " deal " + k + " " + near, x.deal(k, near), model.deal(k, near));
                break;
            case 15:
                if (pick(8) == 0) {
                    int tenths = number(10);
                    int most = number(4);
                    Check.due(run + " odds " + tenths + " " + most + " " + what, x.odds(tenths, most, what),
                            model.odds(tenths, most, what));
                }
                break;
            case 16:
            case 17:
                watch(run, x, model, a, near, cell);
                break;
            case 18:
                if (pick(2) == 0) {
                    Check.due(run + " forget", x.forget(), model.forget());
                }
                break;
            case 19:
                Check.due(run + " faced " + a, x.faced(a), model.faced(a));
                break;
            case 20:
                Check.due(run + " look " + a, x.look(a), model.look(a));
                break;
            case 21:
                int kind = number(5);
                Check.due(run + " rate " + kind + " " + a, x.rate(kind, a), model.rate(kind, a));
                break;
            case 22:
                int image = number(1);
                Check.due(run + " keep " + image, x.keep(image), model.keep(image));
                break;
            case 23:
                int kept = number(1);
                Check.due(run + " back " + kept, x.back(kept), model.back(kept));
                break;
            case 24:
                int which6 = number(5);
                Check.due(run + " count " + which6, x.count(which6), model.count(which6));
                break;
            case 25:
                Check.due(run + " trace", x.trace(), model.trace());
                break;
            default:
                Check.due(run + " step", x.step(), model.step());
                break;
        }
    }

    /** Half of the time what would be, were it to mind one of them, so that MINDED is seldom empty. */
    private void watch(int run, BackMarch x, Model model, int g, int n, int cell) {
        int seen = cell;
        if (pick(2) == 0) {
            int there = x.where(g, n);
            seen = there >= 0 ? there : cell;
        }
        Check.due(run + " watches " + g + " " + n + " " + seen, x.watches(g, n, seen), model.watches(g, n, seen));
        Check.due(run + " faced " + g, x.faced(g), model.faced(g));
        Check.due(run + " look " + g, x.look(g), model.look(g));
    }

    private static void compare(int run, BackMarch x, Model model) {
        for (int a = 0; a <= 5; a++) {
            Check.due(run + " count " + a, x.count(a), model.count(a));
            Check.due(run + " now " + a, x.now(a), model.now(a));
        }
        for (int a = 0; a < 4; a++) {
            for (int what = 0; what <= 3; what++) {
                Check.due(run + " regiment " + a + " " + what, x.regiment(a, what), model.regiment(a, what));
                Check.due(run + " mother " + a + " " + what, x.mother(a, what), model.mother(a, what));
            }
        }
        for (int cell = 0; cell < 80; cell++) {
            for (int what = 0; what <= 2; what++) {
                Check.due(run + " cell " + cell + " " + what, x.cell(cell, what), model.cell(cell, what));
            }
        }
        Check.due(run + " trace", x.trace(), model.trace());
    }
}
