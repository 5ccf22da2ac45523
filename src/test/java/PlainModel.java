import java.util.ArrayList;
import java.util.HashMap;
import java.util.LinkedList;
import java.util.List;
import java.util.Map;

/**
 * The document in its plainest form, to compare the class with: it copies all that is so and lets
 * the days pass on the copy, where the class reckons ahead.
 */
final class PlainModel {
    static final int NONE = -1, UNKNOWN = -1000000001, OUTSIDE = -1000000002, NOT = -1000000003, FULL = -1000000004;

    static final class Glass {
        int temper, weight, glad;
        Glass(int temper, int weight, int glad) { this.temper = temper; this.weight = weight; this.glad = glad; }
    }

    static final class Boat {
        int limit, s, caught;
        boolean lost, held;
        Boat(int limit, int s) { this.limit = limit; this.s = s; }
        Boat copy() { Boat b = new Boat(limit, s); b.caught = caught; b.lost = lost; b.held = held; return b; }
    }

    static final class World {
        List<Integer> weather = new ArrayList<>();
        List<Glass> glasses = new ArrayList<>();
        List<Boat> boats = new ArrayList<>();
        LinkedList<int[]> log = new LinkedList<>();
        int c, drinks, day;

        World copy() {
            World w = new World();
            w.weather = weather;
            for (Glass g : glasses) w.glasses.add(new Glass(g.temper, g.weight, g.glad));
            for (Boat b : boats) w.boats.add(b.copy());
            w.log.addAll(log);
            w.c = c; w.drinks = drinks; w.day = day;
            return w;
        }

        int weatherIn(int n) { return weather.get((day + n) % weather.size()); }

        static int read(int weather, int temper, boolean glad) {
            int x = weather + (temper - 5) + (glad ? 2 : 0);
            return x < 0 ? 0 : x > 9 ? 9 : x;
        }

        int read(int g) { return read(weatherIn(1), glasses.get(g).temper, glasses.get(g).glad > 0); }

        int row() {
            int above = 0, below = 0;
            for (int g = 0; g < glasses.size(); g++) { above += glasses.get(g).weight * read(g); below += glasses.get(g).weight; }
            return below == 0 ? 5 : above / below;
        }

        boolean sails(Boat b) { return !b.lost && !b.held && row() >= b.limit; }

        void pass() {
            int told = row(), tomorrow = weatherIn(1), sailed = 0;
            for (Boat b : boats) if (sails(b)) {
                sailed++;
                if (tomorrow < b.s) b.lost = true; else b.caught = Math.min(999999, b.caught + tomorrow);
            }
            log.addFirst(new int[] {told, tomorrow, sailed});
            if (log.size() > 20) log.removeLast();
            for (Glass g : glasses) if (g.glad > 0) g.glad--;
            drinks = c;
            day++;
        }

        World after(int n) { World w = copy(); for (int i = 0; i < n; i++) w.pass(); return w; }

        int home() { int n = 0; for (Boat b : boats) if (!b.lost) n++; return n; }
    }

    World world = new World();
    final StringBuilder text = new StringBuilder();
    int faultAt = NONE;
    long seed = 0;
    final List<int[]> taps = new ArrayList<>(), book = new ArrayList<>();
    final LinkedList<World> past = new LinkedList<>();
    final World[] imageWorld = new World[2];
    final long[] imageSeed = new long[2];

    boolean noCoast() { return world.weather.isEmpty(); }
    boolean noGlass(int g) { return g < 0 || g >= world.glasses.size(); }
    boolean noBoat(int b) { return b < 0 || b >= world.boats.size(); }
    static boolean out(int v, int a, int b) { return v < a || v > b; }

    void deed() { past.addFirst(world.copy()); if (past.size() > 30) past.removeLast(); }

    int feed(int letter) {
        if (out(letter, 0, 255)) return OUTSIDE;
        if (text.length() == 240) return FULL;
        return text.append((char) letter).length();
    }

    // A token: where it begins, its sign ('0' for a number, 0 for the end), its value, its figures.
    static List<int[]> tokens(String t) {
        List<int[]> all = new ArrayList<>();
        for (int i = 0; i < t.length(); ) {
            char c = t.charAt(i);
            int j = i + 1;
            if (c >= '0' && c <= '9') {
                while (j < t.length() && t.charAt(j) >= '0' && t.charAt(j) <= '9') j++;
                all.add(new int[] {i, '0', j - i > 3 ? 9999 : Integer.parseInt(t.substring(i, j)), j - i});
            } else if (c != ' ') {
                all.add(new int[] {i, c, 0, 0});
            }
            i = j;
        }
        all.add(new int[] {t.length(), -1, 0, 0});
        return all;
    }

    static final class Bad extends Exception {
        private static final long serialVersionUID = 1;
        final int kind, at;
        Bad(int kind, int at) { this.kind = kind; this.at = at; }
    }

    static int number(int[] token, int most) throws Bad {
        if (token[1] != '0') throw new Bad(1, token[0]);
        if (token[3] > 3 || token[2] > most) throw new Bad(2, token[0]);
        return token[2];
    }

    static void sign(int[] token, char c) throws Bad { if (token[1] != c) throw new Bad(1, token[0]); }

    static World parse(String t) throws Bad {
        World w = new World();
        List<int[]> k = tokens(t);
        int i = 0;
        Integer c = null;
        while (k.get(i)[1] != -1) {
            int[] word = k.get(i++);
            boolean known = "wgbd".indexOf(word[1]) >= 0;
            if (!known || i == 1 && word[1] != 'w') throw new Bad(1, word[0]);
            if (word[1] == 'w') {
                if (!w.weather.isEmpty()) throw new Bad(3, word[0]);
                w.weather.add(number(k.get(i++), 9));
                while (k.get(i)[1] == ',') {
                    if (w.weather.size() == 12) throw new Bad(1, k.get(i)[0]);
                    w.weather.add(number(k.get(i + 1), 9));
                    i += 2;
                }
            } else if (word[1] == 'd') {
                if (c != null) throw new Bad(3, word[0]);
                c = number(k.get(i++), 20);
            } else {
                boolean glass = word[1] == 'g';
                if (glass ? w.glasses.size() == 7 : w.boats.size() == 5) throw new Bad(3, word[0]);
                int first = number(k.get(i++), glass ? 10 : 9), second = number(k.get(i++), 9);
                if (glass) w.glasses.add(new Glass(first, second, 0)); else w.boats.add(new Boat(first, second));
            }
            sign(k.get(i++), ';');
        }
        w.c = w.weather.isEmpty() ? 0 : c == null ? 3 : c;
        w.drinks = w.c;
        return w;
    }

    int coast() {
        String t = text.toString();
        text.setLength(0);
        try {
            world = parse(t);
        } catch (Bad bad) {
            faultAt = bad.at;
            return -10 - bad.kind;
        }
        faultAt = NONE;
        taps.clear(); book.clear(); past.clear();
        imageWorld[0] = imageWorld[1] = null;
        return world.glasses.size();
    }

    int fault() { return faultAt; }

    int told(int what) {
        int set = 0;
        switch (what) {
            case 0: return world.weather.size();
            case 1: return world.glasses.size();
            case 2: return world.boats.size();
            case 3: return text.length();
            case 4: return world.day;
            case 5: return noCoast() ? NONE : world.row();
            case 6: return world.drinks;
            case 7: for (int b = 0; b < world.boats.size(); b++) if (world.sails(world.boats.get(b))) set += 1 << b; return set;
            case 8: for (int b = 0; b < world.boats.size(); b++) if (world.boats.get(b).lost) set += 1 << b; return set;
            case 9: for (int b = 0; b < world.boats.size(); b++) if (world.boats.get(b).held) set += 1 << b; return set;
            case 10: for (int g = 0; g < world.glasses.size(); g++) if (world.glasses.get(g).glad > 0) set += 1 << g; return set;
            case 11: for (Boat b : world.boats) set += b.caught; return set;
            case 12: return world.log.size();
            case 13: return taps.size();
            case 14: return book.size();
            case 15: return past.size();
            default: return OUTSIDE;
        }
    }

    int weather(int n) { return out(n, 0, 60) ? OUTSIDE : noCoast() ? NOT : world.weatherIn(n); }

    int glass(int g, int what) {
        if (noGlass(g)) return UNKNOWN;
        if (out(what, 0, 3)) return OUTSIDE;
        Glass x = world.glasses.get(g);
        return what == 0 ? x.temper : what == 1 ? x.weight : what == 2 ? world.read(g) : x.glad;
    }

    int boat(int b, int what) {
        if (noBoat(b)) return UNKNOWN;
        if (out(what, 0, 4)) return OUTSIDE;
        Boat x = world.boats.get(b);
        return what == 0 ? x.limit : what == 1 ? x.s : what == 2 ? (x.lost ? 0 : 1) : what == 3 ? (x.held ? 1 : 0) : x.caught;
    }

    int logged(int i, int what) {
        if (out(what, 0, 2)) return OUTSIDE;
        return i < 0 || i >= world.log.size() ? NONE : world.log.get(i)[what];
    }

    int days(int n, boolean byDraws) {
        if (out(n, 1, 30)) return OUTSIDE;
        if (noCoast()) return NOT;
        if (world.day > 9000) return FULL;
        for (int i = 0; i < n; i++) {
            deed();
            if (byDraws && !world.glasses.isEmpty()) drawn();
            world.pass();
        }
        return world.home();
    }

    int draw(int n) {
        seed = (seed * 1103515245L + 12345L) % (1L << 31);
        return (int) (seed / 65536 % n);
    }

    void drawn() {
        Glass g = world.glasses.get(draw(world.glasses.size()));
        int on = draw(4);
        if (on == 0 && g.temper < 10) g.temper++;
        if (on == 1 && g.temper > 0) g.temper--;
        if (on == 2) g.glad = draw(4);
    }

    int day(int n) { return days(n, false); }
    int drift(int n) { return days(n, true); }

    int drink(int g) {
        if (noGlass(g)) return UNKNOWN;
        if (world.drinks == 0 || world.glasses.get(g).temper == 10) return NOT;
        deed();
        world.drinks--;
        return ++world.glasses.get(g).temper;
    }

    int keepFrom(int g) {
        if (noGlass(g)) return UNKNOWN;
        if (world.glasses.get(g).temper == 0) return NOT;
        deed();
        return --world.glasses.get(g).temper;
    }

    int glad(int g, int n) {
        if (noGlass(g)) return UNKNOWN;
        if (out(n, 0, 60)) return OUTSIDE;
        deed();
        int was = world.glasses.get(g).glad;
        world.glasses.get(g).glad = n;
        return was;
    }

    int weigh(int g, int n) {
        if (noGlass(g)) return UNKNOWN;
        if (out(n, 0, 9)) return OUTSIDE;
        deed();
        int was = world.glasses.get(g).weight;
        world.glasses.get(g).weight = n;
        return was;
    }

    int hold(int b, boolean is) {
        if (noBoat(b)) return UNKNOWN;
        deed();
        boolean was = world.boats.get(b).held;
        world.boats.get(b).held = is;
        return was ? 1 : 0;
    }

    int find(int b) {
        if (noBoat(b)) return UNKNOWN;
        if (!world.boats.get(b).lost) return NOT;
        deed();
        world.boats.get(b).lost = false;
        return world.boats.size() - world.home();
    }

    int undo(int n) {
        if (out(n, 1, 30)) return OUTSIDE;
        if (n > past.size()) return NOT;
        for (int i = 0; i < n; i++) world = past.removeFirst();
        return world.day;
    }

    int tells(int n) { return out(n, 0, 60) ? OUTSIDE : noCoast() ? NOT : world.after(n).row(); }

    int catches(int b, int n) {
        if (noBoat(b)) return UNKNOWN;
        if (out(n, 0, 60)) return OUTSIDE;
        return world.after(n).boats.get(b).caught - world.boats.get(b).caught;
    }

    int loses(int n) {
        if (out(n, 0, 60)) return OUTSIDE;
        if (noCoast()) return 0;
        World then = world.after(n);
        int set = 0;
        for (int b = 0; b < world.boats.size(); b++) if (then.boats.get(b).lost && !world.boats.get(b).lost) set += 1 << b;
        return set;
    }

    int bestLimit(int b, int what) {
        if (noBoat(b)) return UNKNOWN;
        if (out(what, 0, 1)) return OUTSIDE;
        int best = Integer.MIN_VALUE, at = -1;
        for (int l = 0; l <= 9; l++) {
            World w = world.copy();
            Boat x = w.boats.get(b);
            x.lost = x.held = false;
            x.caught = 0;
            x.limit = l;
            for (int i = 0; i < 14; i++) w.pass();
            int worth = x.caught - (x.lost ? 20 : 0);
            if (worth > best) { best = worth; at = l; }
        }
        return what == 0 ? at : best;
    }

    int errorOf(World from, int g) {
        World w = from.copy();
        int sum = 0;
        for (int i = 0; i < 12; i++) {
            sum += Math.abs((g == NONE ? w.row() : w.read(g)) - w.weatherIn(1));
            w.pass();
        }
        return sum;
    }

    int error(int g) {
        if (g != NONE && noGlass(g)) return UNKNOWN;
        return noCoast() ? NOT : errorOf(world, g);
    }

    int truest(int what) {
        if (out(what, 0, 1)) return OUTSIDE;
        int best = NONE;
        for (int g = world.glasses.size() - 1; g >= 0; g--) if (best == NONE || errorOf(world, g) <= errorOf(world, best)) best = g;
        return best == NONE || what == 0 ? best : errorOf(world, best);
    }

    int bestWeights(int g) {
        if (g != NONE && noGlass(g)) return UNKNOWN;
        if (noCoast()) return NOT;
        int n = world.glasses.size(), all = 1, best = Integer.MAX_VALUE;
        for (int i = 0; i < n; i++) all *= 3;
        int[] bestOnes = new int[n];
        World w = world.copy();
        w.boats.clear();
        for (int k = 0; k < all; k++) {
            int left = k;
            for (int i = n - 1; i >= 0; i--) { w.glasses.get(i).weight = left % 3; left /= 3; }
            int is = errorOf(w, NONE);
            if (is < best) { best = is; for (int i = 0; i < n; i++) bestOnes[i] = w.glasses.get(i).weight; }
        }
        return g == NONE ? best : bestOnes[g];
    }

    int steps(int r) {
        if (out(r, 0, 9)) return OUTSIDE;
        if (noCoast()) return NOT;
        return world.glasses.size() <= 3 ? stepsByAllTempers(world.copy(), 0, r, 0) : stepsBySums(r);
    }

    int stepsByAllTempers(World w, int g, int r, int so) {
        if (g == w.glasses.size()) return w.row() == r ? so : NONE;
        int best = NONE, was = w.glasses.get(g).temper;
        for (int t = 0; t <= 10; t++) {
            w.glasses.get(g).temper = t;
            int is = stepsByAllTempers(w, g + 1, r, so + Math.abs(t - was));
            if (is != NONE && (best == NONE || is < best)) best = is;
        }
        w.glasses.get(g).temper = was;
        return best;
    }

    int stepsBySums(int r) {
        Map<Integer, Integer> cost = new HashMap<>();
        cost.put(0, 0);
        int weights = 0;
        for (Glass g : world.glasses) {
            Map<Integer, Integer> next = new HashMap<>();
            for (Map.Entry<Integer, Integer> e : cost.entrySet())
                for (int t = 0; t <= 10; t++)
                    next.merge(e.getKey() + g.weight * World.read(world.weatherIn(1), t, g.glad > 0), e.getValue() + Math.abs(t - g.temper), Math::min);
            cost = next;
            weights += g.weight;
        }
        int best = NONE;
        for (Map.Entry<Integer, Integer> e : cost.entrySet()) {
            int row = weights == 0 ? 5 : e.getKey() / weights;
            if (row == r && (best == NONE || e.getValue() < best)) best = e.getValue();
        }
        return best;
    }

    int allTrue(int set, int what) {
        int given = 0, kept = 0;
        for (int k = 0; k < 32; k++) if ((set >>> k & 1) != 0) {
            if (noGlass(k)) return UNKNOWN;
            int t = world.glasses.get(k).temper;
            if (t < 5) given += 5 - t; else kept += t - 5;
        }
        if (out(what, 0, 2)) return OUTSIDE;
        if (what < 2) return what == 0 ? given : kept;
        int days = 0, there = world.drinks;
        while (given > 0) {
            if (days > 0 && there == 0) return NONE;
            given -= there;
            there = world.c;
            days++;
        }
        return days;
    }

    int differ(int what) {
        if (out(what, 0, 1)) return OUTSIDE;
        int n = world.glasses.size(), most = -1, pair = NONE;
        for (int i = 0; i < n; i++) for (int j = i + 1; j < n; j++) {
            int d = Math.abs(world.read(i) - world.read(j));
            if (d > most) { most = d; pair = 100 * i + j; }
        }
        return what == 0 || n < 2 ? pair : most;
    }

    int fair(int g, int m) {
        if (out(g, 0, 9) || out(m, 1, 12)) return OUTSIDE;
        if (noCoast()) return NOT;
        for (int k = 0; k <= 60; k++) {
            boolean all = true;
            for (int j = 0; j < m; j++) all &= world.weatherIn(k + j) >= g;
            if (all) return k;
        }
        return NONE;
    }

    int falseOnes() {
        int set = 0;
        for (int g = 0; g < world.glasses.size(); g++)
            if (world.read(g) != World.read(world.weatherIn(1), world.glasses.get(g).temper, false)) set += 1 << g;
        return set;
    }

    int holds(int w) {
        if (out(w, 0, 9)) return OUTSIDE;
        int set = 0;
        for (int r = 0; r <= 9; r++) {
            boolean is = true;
            for (int[] e : world.log) if (e[0] >= r && e[1] < w) is = false;
            if (is) set += 1 << r;
        }
        return set;
    }

    int homeBy(int n, int q) {
        if (out(n, 0, 60) || out(q, 0, 100)) return OUTSIDE;
        long odds = 1000000000L;
        for (int i = 0; i < n; i++) odds = odds * (100 - q) / 100;
        return (int) odds;
    }

    int tap(int g, int x) {
        if (noGlass(g)) return UNKNOWN;
        if (out(x, 0, 9)) return OUTSIDE;
        if (taps.size() == 6) return FULL;
        taps.add(new int[] {g, x});
        return taps.size();
    }

    int readBy(int g, int v) { return World.read(v, world.glasses.get(g).temper, world.glasses.get(g).glad > 0); }

    List<Integer> couldBe() {
        List<Integer> all = new ArrayList<>();
        for (int v = 0; v <= 9; v++) {
            boolean is = true;
            for (int[] t : taps) is &= readBy(t[0], v) == t[1];
            if (is) all.add(v);
        }
        return all;
    }

    int could() { int set = 0; for (int v : couldBe()) set += 1 << v; return set; }

    int tapNext() {
        List<Integer> these = couldBe();
        int best = NONE, least = these.size();
        for (int g = 0; g < world.glasses.size(); g++) {
            Map<Integer, Integer> parts = new HashMap<>();
            for (int v : these) parts.merge(readBy(g, v), 1, Integer::sum);
            int greatest = 0;
            for (int p : parts.values()) greatest = Math.max(greatest, p);
            if (parts.size() > 1 && greatest < least) { least = greatest; best = g; }
        }
        return best;
    }

    int write(int g, int temper) {
        if (noGlass(g)) return UNKNOWN;
        if (out(temper, 0, 10)) return OUTSIDE;
        if (book.size() == 20) return FULL;
        book.add(new int[] {g, temper});
        return book.size();
    }

    int judge() {
        for (int i = 0; i < book.size(); i++) if (world.glasses.get(book.get(i)[0]).temper != book.get(i)[1]) return i;
        return NONE;
    }

    int tear() { int n = taps.size() + book.size(); taps.clear(); book.clear(); return n; }

    int seed(int v) { if (v < 0) return OUTSIDE; int was = (int) seed; seed = v; return was; }

    int keep(int i) {
        if (out(i, 0, 1)) return UNKNOWN;
        imageWorld[i] = world.copy();
        imageSeed[i] = seed;
        past.clear();
        return 1;
    }

    int goBack(int i) {
        if (out(i, 0, 1)) return UNKNOWN;
        if (imageWorld[i] == null) return NOT;
        world = imageWorld[i].copy();
        seed = imageSeed[i];
        past.clear();
        return 1;
    }
}
