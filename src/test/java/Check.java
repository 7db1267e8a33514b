/** What every test of the project uses: answers against those that are due, and texts typed whole. */
final class Check {
    private static int wrong = 0;

    private Check() {
    }

    static void due(String call, long got, long want) {
        if (got != want) {
            wrong++;
            if (wrong <= 40) {
                System.out.println(call + " answered " + got + ", due is " + want);
            }
        }
    }

    static void fault(String what) {
        wrong++;
        System.out.println(what);
    }

    static int wrongs() {
        return wrong;
    }

    static void end(String name) {
        System.out.println(name + ": " + (wrong == 0 ? "all as due" : wrong + " not as due"));
        if (wrong != 0) {
            System.exit(1);
        }
    }

    static void type(BackMarch x, String text) {
        for (int i = 0; i < text.length(); i++) {
            x.type(text.charAt(i));
        }
    }

    /** What land() answers for a text on its own. */
    static int read(BackMarch x, String text) {
        x.clear();
        type(x, text);
        return x.land();
    }

    static BackMarch landOf(String text) {
        BackMarch x = new BackMarch();
        int items = read(x, text);
        if (items < 0) {
            fault("land of \"" + text + "\" answered " + items);
        }
        return x;
    }
}
