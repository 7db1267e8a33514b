import java.util.ArrayDeque;
import java.util.ArrayList;
import java.util.Deque;
import java.util.HashMap;
import java.util.HashSet;
import java.util.List;
import java.util.Map;
import java.util.Set;
import java.util.regex.Matcher;
import java.util.regex.Pattern;

/** The document done once more, with worlds that are copied whole and the Java library, to be compared with. */
final class Model {
    private static final Pattern TOKEN = Pattern.compile("[0-9]+|[^ ]", Pattern.DOTALL);

    /** All that a step may change. */
    private static final class World {
        List<int[]> mothers = new ArrayList<>();
        List<int[]> regiments = new ArrayList<>();
        List<Integer> minds = new ArrayList<>();
        Set<Integer> mirrors = new HashSet<>();
        Set<Integer> down = new HashSet<>();
        Set<Integer> known = new HashSet<>();

        World copy() {
            World w = new World();
            for (int[] m : mothers) {
                w.mothers.add(m.clone());
            }
            for (int[] g : regiments) {
                w.regiments.add(g.clone());
            }
            w.minds.addAll(minds);
            w.mirrors.addAll(mirrors);
            w.down.addAll(down);
            w.known.addAll(known);
            return w;
        }
    }

    private int wide = 8;
    private int high = 8;
    private Map<Integer, Integer> ground = new HashMap<>();
    private World world = new World();
    private final Deque<World> past = new ArrayDeque<>();
    private final World[] images = new World[2];
    private final List<int[]> watched = new ArrayList<>();
    private String text = "";
    private long trace = 0;

    // ---- the land

    int type(int letter) {
        if (letter < 0 || letter > 255) {
            return -1;
        }
        if (text.length() == 120) {
            return -3;
        }
        text += (char) letter;
        return text.length();
    }

    int clear() {
        int had = text.length();
        text = "";
        return had;
    }

    int land() {
        List<String> tokens = new ArrayList<>();
        List<Integer> places = new ArrayList<>();
        Matcher matcher = TOKEN.matcher(text);
        while (matcher.find()) {
            tokens.add(matcher.group());
            places.add(matcher.start());
        }
        places.add(text.length());
        int w = 8;
        int h = 8;
        Map<Integer, Integer> cells = new HashMap<>();
        World told = new World();
        int items = 0;
        int at = 0;
        while (at < tokens.size()) {
            String sign = tokens.get(at);
            boolean can = sign.equals("n") && items == 0 || sign.equals("o")
                    || sign.equals("m") && told.mothers.size() < 4
                    || sign.equals("g") && told.regiments.size() < 4;
            if (!can) {
                return -10 - places.get(at);
            }
            int[] least = {sign.equals("n") ? 1 : 0, sign.equals("n") ? 1 : 0, 0};
            int[] most = {sign.equals("n") ? 8 : w - 1, sign.equals("n") ? 8 : h - 1, sign.equals("o") ? 1 : 9};
            int due = sign.equals("o") || sign.equals("g") ? 3 : 2;
            int[] numbers = new int[3];
            for (int i = 0; i < due; i++) {
                at++;
                if (at >= tokens.size() || !tokens.get(at).matches("0|[1-9][0-9]?")) {
                    return -10 - places.get(at);
                }
                numbers[i] = Integer.parseInt(tokens.get(at));
                boolean fits = numbers[i] >= least[i] && numbers[i] <= most[i];
                if (i == 2 && sign.equals("g") && numbers[i] != 9 && numbers[i] >= told.mothers.size()) {
                    fits = false;
                }
                if (!fits) {
                    return -10 - places.get(at);
                }
            }
            at++;
            if (at >= tokens.size() || !tokens.get(at).equals(";")) {
                return -10 - places.get(at);
            }
            at++;
            items++;
            if (sign.equals("n")) {
                w = numbers[0];
                h = numbers[1];
            } else if (sign.equals("o")) {
                cells.put(10 * numbers[0] + numbers[1], numbers[2] + 1);
            } else if (sign.equals("m")) {
                told.mothers.add(new int[] {numbers[0], numbers[1]});
            } else {
                told.regiments.add(new int[] {numbers[0], numbers[1]});
                told.minds.add(numbers[2]);
                told.known.add(10 * numbers[0] + numbers[1]);
            }
        }
        wide = w;
        high = h;
        ground = cells;
        world = told;
        past.clear();
        images[0] = null;
        images[1] = null;
        watched.clear();
        text = "";
        return items;
    }

    private boolean isCell(int cell) {
        return cell >= 0 && inside(cell / 10, cell % 10);
    }

    private boolean inside(int x, int y) {
        return x >= 0 && y >= 0 && x < wide && y < high;
    }

    private boolean isMother(int m) {
        return m >= 0 && m < world.mothers.size();
    }

    private boolean isRegiment(int g) {
        return g >= 0 && g < world.regiments.size();
    }

    private static int number(int[] place) {
        return 10 * place[0] + place[1];
    }

    private static int bits(Set<Integer> set) {
        int bits = 0;
        for (int one : set) {
            bits |= 1 << one;
        }
        return bits;
    }

    int cell(int cell, int what) {
        if (!isCell(cell)) {
            return -1;
        }
        if (what == 0) {
            return ground.getOrDefault(cell, 0);
        }
        if (what == 1) {
            return world.known.contains(cell) ? 1 : 0;
        }
        if (what != 2) {
            return -1;
        }
        Set<Integer> there = new HashSet<>();
        for (int g = 0; g < world.regiments.size(); g++) {
            if (number(world.regiments.get(g)) == cell) {
                there.add(g);
            }
        }
        return bits(there);
    }

    int mother(int m, int what) {
        if (!isMother(m) || what < 0 || what > 1) {
            return -1;
        }
        if (what == 0) {
            return number(world.mothers.get(m));
        }
        Set<Integer> minders = new HashSet<>();
        for (int g = 0; g < world.regiments.size(); g++) {
            if (world.minds.get(g) == m) {
                minders.add(g);
            }
        }
        return bits(minders);
    }

    int regiment(int g, int what) {
        if (!isRegiment(g) || what < 0 || what > 3) {
            return -1;
        }
        if (what == 0) {
            return number(world.regiments.get(g));
        }
        if (what == 1) {
            return world.minds.get(g) == 9 ? -9 : world.minds.get(g);
        }
        return (what == 2 ? world.mirrors : world.down).contains(g) ? 1 : 0;
    }

    int now(int what) {
        if (what == 0) {
            return world.known.size();
        }
        if (what == 1) {
            return bits(world.mirrors);
        }
        if (what == 2) {
            return bits(world.down);
        }
        return what == 3 ? past.size() : -1;
    }

    // ---- what is done

    private void remember() {
        past.addLast(world.copy());
        if (past.size() > 10) {
            past.removeFirst();
        }
    }

    private boolean wall(int x, int y) {
        return ground.getOrDefault(10 * x + y, 0) == 2;
    }

    private boolean fold(int x, int y) {
        return ground.getOrDefault(10 * x + y, 0) == 1;
    }

    private boolean free(World w, int x, int y) {
        if (!inside(x, y) || wall(x, y)) {
            return false;
        }
        for (int[] other : w.regiments) {
            if (other[0] == x && other[1] == y) {
                return false;
            }
        }
        return true;
    }

    private void put(World w, int g, int x, int y) {
        w.regiments.set(g, new int[] {x, y});
        w.known.add(10 * x + y);
    }

    /** Two numbers: how many went, how many fell. */
    private int[] stepOf(World w) {
        int went = 0;
        int fell = 0;
        for (int g = 0; g < w.regiments.size(); g++) {
            if (w.down.remove(g) || w.minds.get(g) == 9) {
                continue;
            }
            int x = w.regiments.get(g)[0];
            int y = w.regiments.get(g)[1];
            int dx = x - w.mothers.get(w.minds.get(g))[0];
            int dy = y - w.mothers.get(w.minds.get(g))[1];
            if (dx == 0 && dy == 0) {
                continue;
            }
            boolean alongX = Math.abs(dx) >= Math.abs(dy);
            int sx = alongX ? Integer.signum(dx) : 0;
            int sy = alongX ? 0 : Integer.signum(dy);
            if (!w.mirrors.contains(g)) {
                if (free(w, x + sx, y + sy)) {
                    put(w, g, x + sx, y + sy);
                    went++;
                    if (fold(x + sx, y + sy)) {
                        w.down.add(g);
                        fell++;
                    }
                }
                continue;
            }
            int[][] ways = {{x + sx, y + sy},
                alongX ? new int[] {x, y - 1} : new int[] {x - 1, y},
                alongX ? new int[] {x, y + 1} : new int[] {x + 1, y}};
            for (int[] way : ways) {
                if (free(w, way[0], way[1]) && !fold(way[0], way[1])) {
                    put(w, g, way[0], way[1]);
                    went++;
                    break;
                }
            }
        }
        return new int[] {went, fell};
    }

    int step() {
        remember();
        return stepOf(world)[0];
    }

    private static int[] beside(int[] place, int side) {
        int[][] sides = {{-1, 0}, {1, 0}, {0, -1}, {0, 1}};
        return new int[] {place[0] + sides[side][0], place[1] + sides[side][1]};
    }

    int walks(int m, int side) {
        if (!isMother(m) || side < 0 || side > 3) {
            return -1;
        }
        int[] to = beside(world.mothers.get(m), side);
        if (!inside(to[0], to[1]) || wall(to[0], to[1])) {
            return -2;
        }
        remember();
        world.mothers.set(m, to);
        return number(to);
    }

    int seesOff(int g, int m) {
        if (!isRegiment(g) || !(isMother(m) || m == 9)) {
            return -1;
        }
        int was = world.minds.get(g);
        if (was == m) {
            return -2;
        }
        remember();
        world.minds.set(g, m);
        return was == 9 ? -9 : was;
    }

    int deals(int g, int has) {
        if (!isRegiment(g) || has != 0 && has != 1) {
            return -1;
        }
        if (world.mirrors.contains(g) == (has == 1)) {
            return -2;
        }
        remember();
        if (has == 1) {
            world.mirrors.add(g);
        } else {
            world.mirrors.remove(g);
        }
        return world.mirrors.size();
    }

    int leads(int g, int side) {
        if (!isRegiment(g) || side < 0 || side > 3) {
            return -1;
        }
        int[] to = beside(world.regiments.get(g), side);
        if (world.minds.get(g) != 9 || world.down.contains(g) || !free(world, to[0], to[1])) {
            return -2;
        }
        remember();
        put(world, g, to[0], to[1]);
        if (fold(to[0], to[1]) && !world.mirrors.contains(g)) {
            world.down.add(g);
        }
        return number(to);
    }

    int undo() {
        if (past.isEmpty()) {
            return -2;
        }
        world = past.removeLast();
        return past.size();
    }

    // ---- foretold

    private int[] path(World start, int g, int steps) {
        World w = start.copy();
        int[] path = new int[steps + 1];
        path[0] = number(w.regiments.get(g));
        for (int n = 1; n <= steps; n++) {
            stepOf(w);
            path[n] = number(w.regiments.get(g));
        }
        return path;
    }

    private int fallsOf(World start, int n) {
        World w = start.copy();
        int fell = 0;
        for (int i = 0; i < n; i++) {
            fell += stepOf(w)[1];
        }
        return fell;
    }

    int where(int g, int n) {
        return isRegiment(g) && n >= 0 && n <= 40 ? path(world, g, n)[n] : -1;
    }

    int falls(int n) {
        return n >= 0 && n <= 40 ? fallsOf(world, n) : -1;
    }

    int comes(int g, int cell) {
        if (!isRegiment(g) || !isCell(cell)) {
            return -1;
        }
        int[] path = path(world, g, 40);
        for (int n = 0; n <= 40; n++) {
            if (path[n] == cell) {
                return n;
            }
        }
        return -9;
    }

    int wave(int g, int cell, int n) {
        if (!isRegiment(g) || !isCell(cell) || n < 0 || n > 20) {
            return -1;
        }
        if (world.minds.get(g) == 9) {
            return -2;
        }
        for (int stand = 0; stand < 80; stand++) {
            if (isCell(stand) && ground.getOrDefault(stand, 0) != 2) {
                World w = world.copy();
                w.mothers.set(w.minds.get(g), new int[] {stand / 10, stand % 10});
                if (path(w, g, n)[n] == cell) {
                    return stand;
                }
            }
        }
        return -9;
    }

    int deal(int k, int n) {
        if (k < 0 || k > 4 || n < 0 || n > 20) {
            return -1;
        }
        int best = -9;
        int fewest = Integer.MAX_VALUE;
        for (int set = 0; set < 16; set++) {
            World w = world.copy();
            w.mirrors.clear();
            for (int g = 0; g < 4; g++) {
                if ((set & 1 << g) != 0) {
                    w.mirrors.add(g);
                }
            }
            boolean there = set < 1 << w.regiments.size();
            if (there && w.mirrors.size() == k && fallsOf(w, n) < fewest) {
                fewest = fallsOf(w, n);
                best = set;
            }
        }
        return best;
    }

    int odds(int x, int k, int what) {
        if (x < 0 || x > 10 || k < 0 || k > 4 || what < 0 || what > 1) {
            return -1;
        }
        int cases = 1;
        for (int m = 0; m < world.mothers.size(); m++) {
            cases *= 10;
        }
        int good = 0;
        for (int one = 0; one < cases; one++) {
            int asleep = 0;
            int rest = one;
            for (int m = 0; m < world.mothers.size(); m++) {
                if (rest % 10 < x) {
                    asleep++;
                }
                rest /= 10;
            }
            if (asleep <= k) {
                good++;
            }
        }
        int divisor = cases;
        while (good % divisor != 0 || cases % divisor != 0) {
            divisor--;
        }
        return (what == 0 ? good : cases) / divisor;
    }

    // ---- whom it faces

    int watches(int g, int n, int cell) {
        if (!isRegiment(g) || n < 0 || n > 20 || !isCell(cell)) {
            return -1;
        }
        if (watched.size() == 6) {
            return -3;
        }
        watched.add(new int[] {g, n, cell});
        return watched.size();
    }

    int forget() {
        int was = watched.size();
        watched.clear();
        return was;
    }

    private Map<Integer, int[]> possible(int g) {
        Map<Integer, int[]> paths = new HashMap<>();
        for (int m = 0; m < world.mothers.size(); m++) {
            World w = world.copy();
            w.minds.set(g, m);
            int[] path = path(w, g, 20);
            boolean so = true;
            for (int[] one : watched) {
                so &= one[0] != g || path[one[1]] == one[2];
            }
            if (so) {
                paths.put(m, path);
            }
        }
        return paths;
    }

    int faced(int g) {
        return isRegiment(g) ? bits(possible(g).keySet()) : -1;
    }

    int look(int g) {
        if (!isRegiment(g)) {
            return -1;
        }
        Map<Integer, int[]> paths = possible(g);
        if (paths.size() <= 1) {
            return -9;
        }
        int best = -9;
        int least = Integer.MAX_VALUE;
        for (int n = 0; n <= 20; n++) {
            Map<Integer, Integer> crowds = new HashMap<>();
            int greatest = 0;
            for (int[] path : paths.values()) {
                greatest = Math.max(greatest, crowds.merge(path[n], 1, Integer::sum));
            }
            if (greatest < least) {
                least = greatest;
                best = n;
            }
        }
        return best;
    }

    // ---- kinds, images

    int rate(int kind, int g) {
        if (kind < 0 || kind > 5 || !isRegiment(g)) {
            return -1000000;
        }
        int[] over = {-1, 0, 0, 1, 2, 0};
        long[] bodies = {1, 10, 100, 1000, 10000, 100000};
        trace += bodies[kind];
        int[] at = world.regiments.get(g);
        int up = kind == 0 ? at[0] + at[1] : rate(over[kind], g);
        switch (kind) {
            case 1:
                if (world.minds.get(g) == 9) {
                    return up;
                }
                int[] hers = world.mothers.get(world.minds.get(g));
                return up + Math.abs(at[0] - hers[0]) + Math.abs(at[1] - hers[1]);
            case 2:
                return up - world.mirrors.size();
            case 3:
                return 2 * up;
            case 4:
                return up + g;
            case 5:
                return up + world.known.size();
            default:
                return up;
        }
    }

    int keep(int image) {
        if (image != 0 && image != 1) {
            return -1;
        }
        images[image] = world.copy();
        return world.known.size();
    }

    int back(int image) {
        if (image != 0 && image != 1) {
            return -1;
        }
        if (images[image] == null) {
            return -2;
        }
        world = images[image].copy();
        past.clear();
        return world.known.size();
    }

    int count(int what) {
        int[] counts = {wide, high, world.mothers.size(), world.regiments.size(), watched.size(), text.length()};
        return what >= 0 && what < counts.length ? counts[what] : -1;
    }

    long trace() {
        return trace;
    }
}
