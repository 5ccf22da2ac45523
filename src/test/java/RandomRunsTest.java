import java.util.ArrayList;
import java.util.List;
import java.util.Random;

/** Random runs of 512 calls, the same ones every time, on the class and on the plain model. */
public final class RandomRunsTest {
    private static final int RUNS = 1500, CALLS = 512, METHODS = 41;

    private final Random random;
    private final GladGlasses x = new GladGlasses();
    private final PlainModel y = new PlainModel();
    private final List<String> calls = new ArrayList<>();
    private boolean same = true;

    private RandomRunsTest(long start) { random = new Random(start); }

    private void call(String name, int got, int want) {
        calls.add(name + " answered " + got);
        if (got != want && same) {
            same = false;
            for (String c : calls.subList(Math.max(0, calls.size() - 120), calls.size())) System.out.println("  " + c);
            System.out.println("the model answered " + want);
        }
    }

    private int number(int least, int most) {
        int kind = random.nextInt(40);
        if (kind == 0) return least - 1;
        if (kind == 1) return most + 1;
        if (kind == 2) return random.nextInt();
        if (kind == 3) return random.nextBoolean() ? Integer.MIN_VALUE : Integer.MAX_VALUE;
        return least + random.nextInt(most - least + 1);
    }

    private int aGlass() { return number(0, Math.max(0, y.world.glasses.size() - 1)); }
    private int aBoat() { return number(0, Math.max(0, y.world.boats.size() - 1)); }

    private String blanks() { return random.nextInt(8) == 0 ? " " : ""; }

    private String clause(char word) {
        StringBuilder t = new StringBuilder(blanks()).append(word).append(blanks());
        int slip = random.nextInt(60);
        if (word == 'w') {
            int n = slip == 0 ? 13 : 1 + random.nextInt(12);
            for (int i = 0; i < n; i++) t.append(i == 0 ? "" : ",").append(blanks()).append(slip == 1 ? random.nextInt(12) : random.nextInt(10)).append(blanks());
        } else if (word == 'd') {
            t.append(random.nextInt(slip == 2 ? 2000 : 21));
        } else {
            t.append(random.nextInt(slip == 3 ? 30 : word == 'g' ? 11 : 10)).append(" ").append(blanks()).append(random.nextInt(slip == 4 ? 30 : 10));
        }
        return t.append(blanks()).append(slip == 5 ? "" : ";").toString();
    }

    private String text() {
        if (random.nextInt(30) == 0) return random.nextBoolean() ? "" : "  ";
        StringBuilder t = new StringBuilder(random.nextInt(40) == 0 ? "" : clause('w'));
        int glasses = random.nextInt(8) + (random.nextInt(20) == 0 ? 1 : 0), boats = random.nextInt(6) + (random.nextInt(20) == 0 ? 1 : 0);
        for (int i = 0; i < glasses; i++) t.append(clause('g'));
        for (int i = 0; i < boats; i++) t.append(clause('b'));
        if (random.nextInt(3) > 0) t.append(clause('d'));
        if (random.nextInt(25) == 0) t.append(clause("wgbd".charAt(random.nextInt(4))));
        if (random.nextInt(10) == 0) {
            int at = random.nextInt(t.length());
            String signs = "wgbd;, 0159x";
            char sign = random.nextInt(8) == 0 ? (char) random.nextInt(256) : signs.charAt(random.nextInt(signs.length()));
            int kind = random.nextInt(3);
            if (kind == 0) t.setCharAt(at, sign); else if (kind == 1) t.insert(at, sign); else t.deleteCharAt(at);
        }
        return t.toString();
    }

    private void newCoast() {
        String t = text();
        for (int i = 0; i < t.length(); i++) call("feed(" + (int) t.charAt(i) + ")", x.feed(t.charAt(i)), y.feed(t.charAt(i)));
        call("coast()", x.coast(), y.coast());
        call("fault()", x.fault(), y.fault());
    }

    private void section1(int which) {
        int g = aGlass(), b = aBoat(), n = number(0, 60), w = number(0, 15), k = number(0, 4);
        switch (which) {
            case 0: call("feed(" + (n - 2) + ")", x.feed(n - 2), y.feed(n - 2)); break;
            case 1: call("coast()", x.coast(), y.coast()); break;
            case 2: call("fault()", x.fault(), y.fault()); break;
            case 3: call("told(" + w + ")", x.told(w), y.told(w)); break;
            case 4: call("weather(" + n + ")", x.weather(n), y.weather(n)); break;
            case 5: call("glass(" + g + ", " + k + ")", x.glass(g, k), y.glass(g, k)); break;
            case 6: call("boat(" + b + ", " + k + ")", x.boat(b, k), y.boat(b, k)); break;
            default: int i = number(0, 20); call("logged(" + i + ", " + k + ")", x.logged(i, k), y.logged(i, k)); break;
        }
    }

    private void section2(int which) {
        int g = aGlass(), b = aBoat(), n = number(1, random.nextBoolean() ? 4 : 30);
        boolean is = random.nextBoolean();
        switch (which) {
            case 8: call("day(" + n + ")", x.day(n), y.day(n)); break;
            case 9: call("drink(" + g + ")", x.drink(g), y.drink(g)); break;
            case 10: call("keepFrom(" + g + ")", x.keepFrom(g), y.keepFrom(g)); break;
            case 11: int d = number(0, random.nextBoolean() ? 4 : 60); call("glad(" + g + ", " + d + ")", x.glad(g, d), y.glad(g, d)); break;
            case 12: int v = number(0, 9); call("weigh(" + g + ", " + v + ")", x.weigh(g, v), y.weigh(g, v)); break;
            case 13: call("hold(" + b + ", " + is + ")", x.hold(b, is), y.hold(b, is)); break;
            case 14: call("find(" + b + ")", x.find(b), y.find(b)); break;
            case 15: call("drift(" + n + ")", x.drift(n), y.drift(n)); break;
            default: call("undo(" + n + ")", x.undo(n), y.undo(n)); break;
        }
    }

    private void section3(int which) {
        int g = aGlass(), b = aBoat(), n = number(0, 60), r = number(0, 9), k = number(0, 1);
        int orRow = random.nextInt(3) == 0 ? GladGlasses.NONE : g;
        switch (which) {
            case 17: call("tells(" + n + ")", x.tells(n), y.tells(n)); break;
            case 18: call("catches(" + b + ", " + n + ")", x.catches(b, n), y.catches(b, n)); break;
            case 19: call("loses(" + n + ")", x.loses(n), y.loses(n)); break;
            case 20: call("bestLimit(" + b + ", " + k + ")", x.bestLimit(b, k), y.bestLimit(b, k)); break;
            case 21: call("error(" + orRow + ")", x.error(orRow), y.error(orRow)); break;
            case 22: call("truest(" + k + ")", x.truest(k), y.truest(k)); break;
            case 23: if (random.nextInt(4) == 0) call("bestWeights(" + orRow + ")", x.bestWeights(orRow), y.bestWeights(orRow)); break;
            case 24: call("steps(" + r + ")", x.steps(r), y.steps(r)); break;
            case 25: int s = number(0, (1 << y.world.glasses.size()) - 1), w = number(0, 2); call("allTrue(" + s + ", " + w + ")", x.allTrue(s, w), y.allTrue(s, w)); break;
            case 26: call("differ(" + k + ")", x.differ(k), y.differ(k)); break;
            case 27: int m = number(1, 12); call("fair(" + r + ", " + m + ")", x.fair(r, m), y.fair(r, m)); break;
            case 28: call("falseOnes()", x.falseOnes(), y.falseOnes()); break;
            case 29: call("holds(" + r + ")", x.holds(r), y.holds(r)); break;
            default: int q = number(0, 100); call("homeBy(" + n + ", " + q + ")", x.homeBy(n, q), y.homeBy(n, q)); break;
        }
    }

    private void section4(int which) {
        int g = aGlass(), i = number(0, 1);
        switch (which) {
            case 31: int r = likely(g); call("tap(" + g + ", " + r + ")", x.tap(g, r), y.tap(g, r)); break;
            case 32: call("could()", x.could(), y.could()); break;
            case 33: call("tapNext()", x.tapNext(), y.tapNext()); break;
            case 34: int t = y.noGlass(g) || random.nextInt(3) == 0 ? number(0, 10) : y.world.glasses.get(g).temper; call("write(" + g + ", " + t + ")", x.write(g, t), y.write(g, t)); break;
            case 35: call("judge()", x.judge(), y.judge()); break;
            case 36: if (random.nextInt(4) == 0) call("tear()", x.tear(), y.tear()); break;
            case 37: int v = random.nextInt(); call("seed(" + v + ")", x.seed(v), y.seed(v)); break;
            case 38: call("keep(" + i + ")", x.keep(i), y.keep(i)); break;
            case 39: call("goBack(" + i + ")", x.goBack(i), y.goBack(i)); break;
            default: break;
        }
    }

    // Mostly what the glass would read by one same weather, so that something fits.
    private int likely(int g) {
        return y.noGlass(g) || random.nextInt(4) == 0 ? number(0, 9) : y.readBy(g, calls.size() / 40 % 10);
    }

    private boolean run() {
        newCoast();
        boolean oneCoast = random.nextInt(3) > 0;
        while (calls.size() < CALLS && same) {
            int which = random.nextInt(METHODS);
            if (which <= 1 && oneCoast) continue;
            if (which == 0 && random.nextInt(4) == 0 && calls.size() + 120 < CALLS) newCoast();
            else if (which < 8) section1(which);
            else if (which < 17) section2(which);
            else if (which < 31) section3(which);
            else section4(which);
        }
        return same;
    }

    public static void main(String[] args) {
        int runs = args.length > 0 ? Integer.parseInt(args[0]) : RUNS;
        long from = args.length > 1 ? Long.parseLong(args[1]) : 0;
        int wrong = 0;
        for (int i = 0; i < runs && wrong < 3; i++) {
            if (!new RandomRunsTest(from + i).run()) {
                wrong++;
                System.out.println("run " + (from + i) + " differs from the model");
            }
        }
        System.out.println(wrong == 0 ? runs + " random runs are as the model's" : wrong + " random runs differ");
        if (wrong != 0) System.exit(1);
    }
}
