/**
 * A land of cells with folds and walls, mothers who wave in it, and regiments that march backwards,
 * away from their mothers. README.md says how it is used; the words in capitals are the document's.
 */
public final class BackMarch {
    public static final int BAD = -1, STATE = -2, FULL = -3, NONE = -9;
    public static final int NO = -1000000;

    private static final int WIDEST = 8;
    private static final int BODIES = 4;
    private static final int NOBODY = 9;
    private static final int OFF = -1;
    private static final int SIDES = 4;
    private static final int LETTERS = 120;
    private static final int FAR = 40;
    private static final int NEAR = 20;
    private static final int UNDOABLE = 10;
    private static final int WATCHABLE = 6;
    private static final int IMAGES = 2;
    private static final int TENTHS = 10;

    private final Text text = new Text();
    private final Reader reader = new Reader(text);
    private final Land ground = new Land();
    private final March present = new March(ground);
    private final March foretold = new March(ground);
    private final History history = new History(ground);
    private final Images images = new Images(ground);
    private final Watches watched = new Watches();
    private final int[] tracks = new int[BODIES * (NEAR + 1)];
    private long asked;

    public BackMarch() {
        asked = 0;
    }

    // ---- the land

    public int type(int letter) {
        if (letter < 0 || letter > 255) {
            return BAD;
        }
        return text.append(letter) ? text.length : FULL;
    }

    public int clear() {
        int had = text.length;
        text.empty();
        return had;
    }

    public int land() {
        int items = reader.readAll();
        if (items < 0) {
            return items;
        }
        ground.copyFrom(reader.ground);
        present.copyFrom(reader.march);
        text.empty();
        watched.empty();
        images.empty();
        history.empty();
        return items;
    }

    public int cell(int cell, int what) {
        if (!ground.has(cell) || what < 0 || what > 2) {
            return BAD;
        }
        if (what == 0) {
            return ground.kindOf(cell);
        }
        return what == 1 ? present.knows(cell) : present.regimentsAt(cell);
    }

    public int mother(int m, int what) {
        if (!isMother(m) || what < 0 || what > 1) {
            return BAD;
        }
        return what == 0 ? present.motherCell(m) : present.mindersOf(m);
    }

    public int regiment(int g, int what) {
        if (!isRegiment(g) || what < 0 || what > 3) {
            return BAD;
        }
        switch (what) {
            case 0:
                return present.regimentCell(g);
            case 1:
                return toldMother(present.mindedBy(g));
            case 2:
                return bitOf(present.mirrors, g);
            default:
                return bitOf(present.down, g);
        }
    }

    public int now(int what) {
        switch (what) {
            case 0:
                return present.knownCells();
            case 1:
                return present.mirrors;
            case 2:
                return present.down;
            case 3:
                return history.count;
            default:
                return BAD;
        }
    }

    // ---- what is done

    public int step() {
        history.push(present);
        return present.advance();
    }

    public int walks(int m, int side) {
        if (!isMother(m) || !isSide(side)) {
            return BAD;
        }
        int goal = ground.beside(present.motherCell(m), side);
        if (!ground.isOpen(goal)) {
            return STATE;
        }
        history.push(present);
        present.putMother(m, goal);
        return goal;
    }

    public int seesOff(int g, int m) {
        if (!isRegiment(g) || (m != NOBODY && !isMother(m))) {
            return BAD;
        }
        int minded = present.mindedBy(g);
        if (minded == m) {
            return STATE;
        }
        history.push(present);
        present.mind(g, m);
        return toldMother(minded);
    }

    public int deals(int g, int has) {
        if (!isRegiment(g) || has < 0 || has > 1) {
            return BAD;
        }
        if (bitOf(present.mirrors, g) == has) {
            return STATE;
        }
        history.push(present);
        present.mirrors ^= 1 << g;
        return Integer.bitCount(present.mirrors);
    }

    public int leads(int g, int side) {
        if (!isRegiment(g) || !isSide(side)) {
            return BAD;
        }
        int goal = ground.beside(present.regimentCell(g), side);
        boolean canBeLed = present.mindedBy(g) == NOBODY && bitOf(present.down, g) == 0;
        if (!canBeLed || !present.mayEnter(goal, true)) {
            return STATE;
        }
        history.push(present);
        present.enter(g, goal);
        return goal;
    }

    public int undo() {
        return history.pop(present) ? history.count : STATE;
    }

    // ---- foretold

    public int where(int g, int n) {
        if (!isRegiment(g) || n < 0 || n > FAR) {
            return BAD;
        }
        foretold.copyFrom(present);
        foretold.advanceBy(n);
        return foretold.regimentCell(g);
    }

    public int falls(int n) {
        if (n < 0 || n > FAR) {
            return BAD;
        }
        foretold.copyFrom(present);
        return foretold.advanceBy(n);
    }

    public int comes(int g, int cell) {
        if (!isRegiment(g) || !ground.has(cell)) {
            return BAD;
        }
        foretold.copyFrom(present);
        for (int n = 0; n <= FAR; n++) {
            if (foretold.regimentCell(g) == cell) {
                return n;
            }
            foretold.advance();
        }
        return NONE;
    }

    public int wave(int g, int cell, int n) {
        if (!isRegiment(g) || !ground.has(cell) || n < 0 || n > NEAR) {
            return BAD;
        }
        int m = present.mindedBy(g);
        if (m == NOBODY) {
            return STATE;
        }
        for (int x = 0; x < WIDEST; x++) {
            for (int y = 0; y < WIDEST; y++) {
                int stand = cellAt(x, y);
                if (ground.isOpen(stand) && cellIfWaved(g, m, stand, n) == cell) {
                    return stand;
                }
            }
        }
        return NONE;
    }

    public int deal(int k, int n) {
        if (k < 0 || k > BODIES || n < 0 || n > NEAR) {
            return BAD;
        }
        int best = NONE;
        int fewest = 0;
        for (int set = 0; set < 1 << ground.regiments; set++) {
            if (Integer.bitCount(set) == k) {
                int fallen = fallsIfDealt(set, n);
                if (best == NONE || fallen < fewest) {
                    best = set;
                    fewest = fallen;
                }
            }
        }
        return best;
    }

    public int odds(int x, int k, int what) {
        if (x < 0 || x > TENTHS || k < 0 || k > BODIES || what < 0 || what > 1) {
            return BAD;
        }
        int upper = waysToSleep(x, k);
        int lower = power(TENTHS, ground.mothers);
        int divisor = greatestDivisor(upper, lower);
        return (what == 0 ? upper : lower) / divisor;
    }

    // ---- whom it faces

    public int watches(int g, int n, int cell) {
        if (!isRegiment(g) || n < 0 || n > NEAR || !ground.has(cell)) {
            return BAD;
        }
        return watched.add(g, n, cell) ? watched.count : FULL;
    }

    public int forget() {
        int was = watched.count;
        watched.empty();
        return was;
    }

    public int faced(int g) {
        return isRegiment(g) ? mindable(g) : BAD;
    }

    public int look(int g) {
        if (!isRegiment(g)) {
            return BAD;
        }
        int set = mindable(g);
        if (Integer.bitCount(set) < 2) {
            return NONE;
        }
        track(g, set);
        int best = 0;
        for (int n = 1; n <= NEAR; n++) {
            if (greatestCrowd(set, n) < greatestCrowd(set, best)) {
                best = n;
            }
        }
        return best;
    }

    // ---- kinds, images

    public int rate(int kind, int g) {
        if (!isRegiment(g)) {
            return NO;
        }
        switch (kind) {
            case 0:
                return rateFoot(g);
            case 1:
                return rateHussars(g);
            case 2:
                return rateGuards(g);
            case 3:
                return rateLancers(g);
            case 4:
                return rateScouts(g);
            case 5:
                return rateBand(g);
            default:
                return NO;
        }
    }

    public int keep(int image) {
        return images.keepAs(image, present) ? present.knownCells() : BAD;
    }

    public int back(int image) {
        if (image < 0 || image >= IMAGES) {
            return BAD;
        }
        if (!images.bringBack(image, present)) {
            return STATE;
        }
        history.empty();
        return present.knownCells();
    }

    public int count(int what) {
        switch (what) {
            case 0:
                return ground.wide;
            case 1:
                return ground.high;
            case 2:
                return ground.mothers;
            case 3:
                return ground.regiments;
            case 4:
                return watched.count;
            case 5:
                return text.length;
            default:
                return BAD;
        }
    }

    public long trace() {
        return asked;
    }

    // ---- behind the calls

    private boolean isMother(int m) {
        return m >= 0 && m < ground.mothers;
    }

    private boolean isRegiment(int g) {
        return g >= 0 && g < ground.regiments;
    }

    private static boolean isSide(int side) {
        return side >= 0 && side < SIDES;
    }

    private static int toldMother(int m) {
        return m == NOBODY ? NONE : m;
    }

    private static int bitOf(int bits, int place) {
        return bits >> place & 1;
    }

    private static int cellAt(int x, int y) {
        return 10 * x + y;
    }

    private static int xOf(int cell) {
        return cell / 10;
    }

    private static int yOf(int cell) {
        return cell % 10;
    }

    private static int elementOf(int[] row, int place) {
        return place >= 0 && place < row.length ? row[place] : OFF;
    }

    private static void setElement(int[] row, int place, int value) {
        if (place >= 0 && place < row.length) {
            row[place] = value;
        }
    }

    private int cellIfWaved(int g, int m, int stand, int n) {
        foretold.copyFrom(present);
        foretold.putMother(m, stand);
        foretold.advanceBy(n);
        return foretold.regimentCell(g);
    }

    private int fallsIfDealt(int set, int n) {
        foretold.copyFrom(present);
        foretold.mirrors = set;
        return foretold.advanceBy(n);
    }

    /** Of 10 to the number of MOTHERS equal cases, those in which k MOTHERS at most sleep. */
    private int waysToSleep(int x, int k) {
        int ways = 0;
        for (int sleepers = 0; sleepers < 1 << ground.mothers; sleepers++) {
            int asleep = Integer.bitCount(sleepers);
            if (asleep <= k) {
                ways += power(x, asleep) * power(TENTHS - x, ground.mothers - asleep);
            }
        }
        return ways;
    }

    private static int power(int base, int times) {
        int product = 1;
        for (int i = 0; i < times; i++) {
            product *= base;
        }
        return product;
    }

    private static int greatestDivisor(int a, int b) {
        int divisor = a;
        int rest = b;
        // Below 10001 Euclid needs far fewer turns than 64.
        for (int turn = 0; turn < 64 && rest != 0; turn++) {
            int next = divisor % rest;
            divisor = rest;
            rest = next;
        }
        return Math.max(divisor, 1);
    }

    private int mindable(int g) {
        int set = 0;
        for (int m = 0; m < ground.mothers; m++) {
            if (fitsWatched(g, m)) {
                set |= 1 << m;
            }
        }
        return set;
    }

    private boolean fitsWatched(int g, int m) {
        foretold.copyFrom(present);
        foretold.mind(g, m);
        for (int n = 0; n <= NEAR; n++) {
            if (!watched.allows(g, n, foretold.regimentCell(g))) {
                return false;
            }
            foretold.advance();
        }
        return true;
    }

    private static int trackPlace(int m, int n) {
        return m * (NEAR + 1) + n;
    }

    private void track(int g, int set) {
        for (int m = 0; m < BODIES; m++) {
            if (bitOf(set, m) == 1) {
                foretold.copyFrom(present);
                foretold.mind(g, m);
                for (int n = 0; n <= NEAR; n++) {
                    setElement(tracks, trackPlace(m, n), foretold.regimentCell(g));
                    foretold.advance();
                }
            }
        }
    }

    private int greatestCrowd(int set, int n) {
        int greatest = 0;
        for (int m = 0; m < BODIES; m++) {
            if (bitOf(set, m) == 1) {
                greatest = Math.max(greatest, crowdAt(set, n, elementOf(tracks, trackPlace(m, n))));
            }
        }
        return greatest;
    }

    private int crowdAt(int set, int n, int cell) {
        int crowd = 0;
        for (int m = 0; m < BODIES; m++) {
            if (bitOf(set, m) == 1 && elementOf(tracks, trackPlace(m, n)) == cell) {
                crowd++;
            }
        }
        return crowd;
    }

    private int rateFoot(int g) {
        asked += 1;
        int cell = present.regimentCell(g);
        return xOf(cell) + yOf(cell);
    }

    private int rateHussars(int g) {
        asked += 10;
        return rateFoot(g) + present.distanceToMinded(g);
    }

    private int rateGuards(int g) {
        asked += 100;
        return rateFoot(g) - Integer.bitCount(present.mirrors);
    }

    private int rateLancers(int g) {
        asked += 1000;
        return 2 * rateHussars(g);
    }

    private int rateScouts(int g) {
        asked += 10000;
        return rateGuards(g) + g;
    }

    private int rateBand(int g) {
        asked += 100000;
        return rateFoot(g) + present.knownCells();
    }

    /** What a text tells once and no call but land() changes: the cells, and how many bodies there are. */
    private static final class Land {
        int wide = WIDEST;
        int high = WIDEST;
        long folds;
        long walls;
        int mothers;
        int regiments;

        void reset() {
            wide = WIDEST;
            high = WIDEST;
            folds = 0;
            walls = 0;
            mothers = 0;
            regiments = 0;
        }

        void copyFrom(Land other) {
            wide = other.wide;
            high = other.high;
            folds = other.folds;
            walls = other.walls;
            mothers = other.mothers;
            regiments = other.regiments;
        }

        boolean has(int cell) {
            return cell >= 0 && cell / 10 < wide && cell % 10 < high;
        }

        /** The bit of a cell that THE LAND has, in a set of cells. */
        static long maskOf(int cell) {
            return 1L << WIDEST * (cell / 10) + cell % 10;
        }

        boolean isFold(int cell) {
            return has(cell) && (folds & maskOf(cell)) != 0;
        }

        boolean isOpen(int cell) {
            return has(cell) && (walls & maskOf(cell)) == 0;
        }

        int kindOf(int cell) {
            if (!isOpen(cell)) {
                return 2;
            }
            return isFold(cell) ? 1 : 0;
        }

        /** A cell is a FOLD (0) or a WALL (1) from now on, whatever it was. */
        void make(int cell, int kind) {
            long mask = maskOf(cell);
            folds &= ~mask;
            walls &= ~mask;
            if (kind == 0) {
                folds |= mask;
            } else {
                walls |= mask;
            }
        }

        /** The cell beside one, to a side; OFF, if THE LAND ends there. */
        int beside(int cell, int side) {
            int x = xOf(cell);
            int y = yOf(cell);
            switch (side) {
                case 0:
                    x--;
                    break;
                case 1:
                    x++;
                    break;
                case 2:
                    y--;
                    break;
                default:
                    y++;
                    break;
            }
            boolean inside = x >= 0 && x < wide && y >= 0 && y < high;
            return inside ? cellAt(x, y) : OFF;
        }
    }

    /** Who is where, MINDS whom, has a MIRROR, is DOWN, and what is KNOWN: all that steps change. */
    private static final class March {
        final Land ground;
        final int[] motherCells = new int[BODIES];
        final int[] regimentCells = new int[BODIES];
        final int[] minded = new int[BODIES];
        int mirrors;
        int down;
        long known;

        March(Land ground) {
            this.ground = ground;
        }

        void reset() {
            for (int i = 0; i < BODIES; i++) {
                setElement(motherCells, i, 0);
                setElement(regimentCells, i, 0);
                setElement(minded, i, NOBODY);
            }
            mirrors = 0;
            down = 0;
            known = 0;
        }

        void copyFrom(March other) {
            for (int i = 0; i < BODIES; i++) {
                setElement(motherCells, i, elementOf(other.motherCells, i));
                setElement(regimentCells, i, elementOf(other.regimentCells, i));
                setElement(minded, i, elementOf(other.minded, i));
            }
            mirrors = other.mirrors;
            down = other.down;
            known = other.known;
        }

        int motherCell(int m) {
            return elementOf(motherCells, m);
        }

        int regimentCell(int g) {
            return elementOf(regimentCells, g);
        }

        int mindedBy(int g) {
            return elementOf(minded, g);
        }

        void putMother(int m, int cell) {
            setElement(motherCells, m, cell);
        }

        void mind(int g, int m) {
            setElement(minded, g, m);
        }

        int knownCells() {
            return Long.bitCount(known);
        }

        int knows(int cell) {
            return (known & Land.maskOf(cell)) != 0 ? 1 : 0;
        }

        int regimentsAt(int cell) {
            int set = 0;
            for (int g = 0; g < ground.regiments && g < regimentCells.length; g++) {
                if (regimentCells[g] == cell) {
                    set |= 1 << g;
                }
            }
            return set;
        }

        int mindersOf(int m) {
            int set = 0;
            for (int g = 0; g < ground.regiments; g++) {
                if (mindedBy(g) == m) {
                    set |= 1 << g;
                }
            }
            return set;
        }

        /** How far x and y are from those of whom it MINDS, together; 0, if it MINDS nobody. */
        int distanceToMinded(int g) {
            int m = mindedBy(g);
            if (m == NOBODY) {
                return 0;
            }
            int here = regimentCell(g);
            int hers = motherCell(m);
            return Math.abs(xOf(here) - xOf(hers)) + Math.abs(yOf(here) - yOf(hers));
        }

        /** Whether a REGIMENT may come to a cell: it is FREE, and no FOLD, where FOLDS are avoided. */
        boolean mayEnter(int cell, boolean foldsToo) {
            if (!ground.has(cell)) {
                return false;
            }
            long mask = Land.maskOf(cell);
            boolean open = (ground.walls & mask) == 0 && (foldsToo || (ground.folds & mask) == 0);
            return open && regimentsAt(cell) == 0;
        }

        void settle(int g, int cell) {
            setElement(regimentCells, g, cell);
            known |= Land.maskOf(cell);
        }

        void enter(int g, int cell) {
            settle(g, cell);
            if (ground.isFold(cell) && bitOf(mirrors, g) == 0) {
                down |= 1 << g;
            }
        }

        /** So many STEPS: how often one comes to be DOWN in them. */
        int advanceBy(int steps) {
            int fallen = 0;
            for (int i = 0; i < steps; i++) {
                advance();
                // Who was DOWN ahead of a STEP got up in it, so all who are DOWN now fell in it.
                fallen += Integer.bitCount(down);
            }
            return fallen;
        }

        /** A STEP: how many go to another cell. */
        int advance() {
            int gone = 0;
            for (int g = 0; g < ground.regiments; g++) {
                if (bitOf(down, g) == 1) {
                    down &= ~(1 << g);
                } else {
                    int goal = goalOf(g);
                    if (goal != OFF) {
                        enter(g, goal);
                        gone++;
                    }
                }
            }
            return gone;
        }

        /** The cell to which it would go in a STEP; OFF, if it stays. */
        int goalOf(int g) {
            int side = sideAway(g);
            if (side == OFF) {
                return OFF;
            }
            int cell = regimentCell(g);
            boolean mirror = bitOf(mirrors, g) == 1;
            int ahead = ground.beside(cell, side);
            if (mayEnter(ahead, !mirror)) {
                return ahead;
            }
            if (!mirror) {
                return OFF;
            }
            int across = side < 2 ? 2 : 0;
            int less = ground.beside(cell, across);
            if (mayEnter(less, false)) {
                return less;
            }
            int more = ground.beside(cell, across + 1);
            return mayEnter(more, false) ? more : OFF;
        }

        /** The side to which it goes away from its MOTHER; OFF, if to none. */
        int sideAway(int g) {
            int m = elementOf(minded, g);
            if (m == NOBODY) {
                return OFF;
            }
            int here = elementOf(regimentCells, g);
            int hers = elementOf(motherCells, m);
            int x = xOf(here) - xOf(hers);
            int y = yOf(here) - yOf(hers);
            if (x == 0 && y == 0) {
                return OFF;
            }
            if (Math.abs(x) >= Math.abs(y)) {
                return x < 0 ? 0 : 1;
            }
            return y < 0 ? 2 : 3;
        }
    }

    /** The marches ahead of the latest calls that can be UNDONE, in a ring: the oldest is written over. */
    private static final class History {
        final March[] marches = new March[UNDOABLE];
        int next;
        int count;

        History(Land ground) {
            for (int i = 0; i < marches.length; i++) {
                marches[i] = new March(ground);
            }
        }

        void empty() {
            count = 0;
        }

        void push(March march) {
            if (next < 0 || next >= marches.length) {
                return;
            }
            marches[next].copyFrom(march);
            next = next == UNDOABLE - 1 ? 0 : next + 1;
            count = Math.min(count + 1, UNDOABLE);
        }

        boolean pop(March march) {
            int latest = next == 0 ? UNDOABLE - 1 : next - 1;
            if (count == 0 || latest < 0 || latest >= marches.length) {
                return false;
            }
            march.copyFrom(marches[latest]);
            next = latest;
            count--;
            return true;
        }
    }

    private static final class Images {
        final March[] marches = new March[IMAGES];
        int kept;

        Images(Land ground) {
            for (int i = 0; i < marches.length; i++) {
                marches[i] = new March(ground);
            }
        }

        void empty() {
            kept = 0;
        }

        boolean keepAs(int image, March march) {
            if (image < 0 || image >= marches.length) {
                return false;
            }
            marches[image].copyFrom(march);
            kept |= 1 << image;
            return true;
        }

        boolean bringBack(int image, March march) {
            if (image < 0 || image >= marches.length || bitOf(kept, image) == 0) {
                return false;
            }
            march.copyFrom(marches[image]);
            return true;
        }
    }

    private static final class Watches {
        final int[] regiments = new int[WATCHABLE];
        final int[] steps = new int[WATCHABLE];
        final int[] cells = new int[WATCHABLE];
        int count;

        void empty() {
            count = 0;
        }

        boolean add(int g, int n, int cell) {
            if (count >= WATCHABLE) {
                return false;
            }
            setElement(regiments, count, g);
            setElement(steps, count, n);
            setElement(cells, count, cell);
            count++;
            return true;
        }

        /** Whether nothing WATCHED speaks against a REGIMENT's being at a cell behind n STEPS. */
        boolean allows(int g, int n, int cell) {
            for (int i = 0; i < count; i++) {
                boolean told = elementOf(regiments, i) == g && elementOf(steps, i) == n;
                if (told && elementOf(cells, i) != cell) {
                    return false;
                }
            }
            return true;
        }
    }

    /** THE TEXT, and the TOKEN of it that was read last. */
    private static final class Text {
        static final int END = -1;
        static final int NUMBER = -2;
        static final int OTHER = -3;

        final int[] letters = new int[LETTERS];
        int length;
        int at;
        int place;
        int kind;
        int value;

        void empty() {
            length = 0;
        }

        boolean append(int letter) {
            if (length >= LETTERS) {
                return false;
            }
            setElement(letters, length, letter);
            length++;
            return true;
        }

        void rewind() {
            at = 0;
        }

        int letterAt(int i) {
            return i < length ? elementOf(letters, i) : END;
        }

        /** kind becomes NUMBER, END, OTHER or the TOKEN's own letter, place where it begins. */
        void readToken() {
            while (at < length && letterAt(at) == ' ') {
                at++;
            }
            place = at;
            int letter = letterAt(at);
            if (isDigit(letter)) {
                readDigits();
                return;
            }
            at++;
            kind = letter == END || isSign(letter) ? letter : OTHER;
        }

        void readDigits() {
            value = 0;
            while (at < length && isDigit(letterAt(at))) {
                // What is above 99 is wrong however long it is: it stays at 100.
                value = Math.min(10 * value + letterAt(at) - '0', 100);
                at++;
            }
            boolean zeroAhead = letterAt(place) == '0' && at - place > 1;
            kind = value > 99 || zeroAhead ? OTHER : NUMBER;
        }

        static boolean isDigit(int letter) {
            return letter >= '0' && letter <= '9';
        }

        static boolean isSign(int letter) {
            return letter == 'n' || letter == 'o' || letter == 'm' || letter == 'g' || letter == ';';
        }
    }

    /** Reads THE TEXT into a land and a march of its own, so that a FAULT leaves the others as they are. */
    private static final class Reader {
        final Text text;
        final Land ground = new Land();
        final March march = new March(ground);
        final int[] numbers = new int[3];

        Reader(Text text) {
            this.text = text;
        }

        /** How many ITEMS there are; -10 less FAULT. */
        int readAll() {
            ground.reset();
            march.reset();
            text.rewind();
            for (int items = 0; items <= LETTERS; items++) {
                text.readToken();
                if (text.kind == Text.END) {
                    return items;
                }
                if (!mayBegin(text.kind, items) || !readItem(text.kind)) {
                    break;
                }
            }
            return -10 - text.place;
        }

        boolean mayBegin(int sign, int itemsAhead) {
            switch (sign) {
                case 'n':
                    return itemsAhead == 0;
                case 'o':
                    return true;
                case 'm':
                    return ground.mothers < BODIES;
                case 'g':
                    return ground.regiments < BODIES;
                default:
                    return false;
            }
        }

        boolean readItem(int sign) {
            int due = sign == 'o' || sign == 'g' ? 3 : 2;
            for (int i = 0; i < due; i++) {
                text.readToken();
                if (text.kind != Text.NUMBER || !mayStand(sign, i, text.value)) {
                    return false;
                }
                setElement(numbers, i, text.value);
            }
            text.readToken();
            if (text.kind != ';') {
                return false;
            }
            take(sign, elementOf(numbers, 0), elementOf(numbers, 1), elementOf(numbers, 2));
            return true;
        }

        boolean mayStand(int sign, int place, int number) {
            if (sign == 'n') {
                return number >= 1 && number <= WIDEST;
            }
            if (place < 2) {
                return number < (place == 0 ? ground.wide : ground.high);
            }
            if (sign == 'o') {
                return number <= 1;
            }
            return number == NOBODY || number < ground.mothers;
        }

        void take(int sign, int first, int second, int third) {
            int cell = cellAt(first, second);
            switch (sign) {
                case 'n':
                    ground.wide = first;
                    ground.high = second;
                    break;
                case 'o':
                    ground.make(cell, third);
                    break;
                case 'm':
                    march.putMother(ground.mothers, cell);
                    ground.mothers++;
                    break;
                default:
                    march.settle(ground.regiments, cell);
                    march.mind(ground.regiments, third);
                    ground.regiments++;
                    break;
            }
        }
    }
}
