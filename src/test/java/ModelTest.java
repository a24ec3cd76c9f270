import java.util.ArrayList;
import java.util.Arrays;
import java.util.List;
import java.util.Random;

/**
 * Long runs of calls, wild ones among them, against a second writing of the document that is
 * plain and slow: it keeps lists, copies whole blocks and tries everything out.
 */
public final class ModelTest {
    private static final int RUNS = 3000, CALLS = 512, KINDS = 21;
    private static final int[] WILD = {Integer.MIN_VALUE, -3, -2, -1, 0, 1, 2, 5, 8, 10, 24, 30, 31, 50, 51, 99, 100, 101,
        200, 201, 300, 301, 600, 601, 999, 1000, Integer.MAX_VALUE};

    private static final class Layer {
        int thick, dense, grain, hard;
        boolean wet;

        Layer copy() {
            Layer c = new Layer();
            c.thick = thick;
            c.dense = dense;
            c.grain = grain;
            c.hard = hard;
            c.wet = wet;
            return c;
        }
    }

    private static final class State {
        List<Layer> layers = new ArrayList<>();
        int[] firm = {8, 20, 6, 3, 40};
        int blow = 10;

        State copy() {
            State s = new State();
            for (Layer l : layers) {
                s.layers.add(l.copy());
            }
            s.firm = firm.clone();
            s.blow = blow;
            return s;
        }
    }

    private static final class Model {
        State s = new State();
        final State[] images = new State[2];

        static boolean in(int v, int a, int b) {
            return a <= v && v <= b;
        }

        long strength(Layer l) {
            long dry = (long) s.firm[l.grain] * l.hard * l.dense / 100;
            return l.wet ? dry / 2 : dry;
        }

        static List<Layer> above(List<Layer> block, int n) {
            return block.subList(n + 1, block.size());
        }

        static long depth(List<Layer> block, int n) {
            return above(block, n).stream().mapToLong(l -> l.thick).sum();
        }

        static long load(List<Layer> block, int n) {
            return above(block, n).stream().mapToLong(l -> (long) l.thick * l.dense).sum() / 100;
        }

        static long press(List<Layer> block, int n, int weight) {
            return 100L * weight / (depth(block, n) + 10);
        }

        long shear(int n, int steep) {
            return load(s.layers, n) * steep / 100;
        }

        long margin(int n, int steep) {
            long shear = shear(n, steep);
            return shear == 0 ? 9999 : 100 * strength(s.layers.get(n)) / shear;
        }

        boolean known(int layer) {
            return in(layer, 0, s.layers.size() - 1);
        }

        List<int[]> breaks(int blow, int upTo) {
            List<int[]> told = new ArrayList<>();
            List<Layer> block = new ArrayList<>(s.layers);
            for (int tap = 1; tap <= upTo; tap++) {
                int weight = tap <= 10 ? blow : tap <= 20 ? blow * 2 : blow * 4;
                int hit = -1;
                for (int n = 0; n + 1 < block.size(); n++) {
                    if (load(block, n) + press(block, n, weight) >= strength(block.get(n))) {
                        hit = n;
                    }
                }
                if (hit >= 0) {
                    int apart = block.get(hit).hard - block.get(hit + 1).hard;
                    told.add(new int[] {tap, hit, apart >= 2 || apart <= -2 ? 1 : 0});
                    block = new ArrayList<>(block.subList(0, hit + 1));
                }
            }
            return told;
        }

        int storm(int thick, int dense, int grain, int hard) {
            if (!in(thick, 1, 200) || !in(dense, 30, 600) || !in(grain, 0, 4) || !in(hard, 1, 5)) return -2;
            if (s.layers.size() == 10) return -4;
            Layer l = new Layer();
            l.thick = thick;
            l.dense = dense;
            l.grain = grain;
            l.hard = hard;
            s.layers.add(l);
            return s.layers.size() - 1;
        }

        int firm(int grain, int v) {
            if (!in(grain, 0, 4)) return -1;
            if (!in(v, 1, 99)) return -2;
            int was = s.firm[grain];
            s.firm[grain] = v;
            return was;
        }

        int layer(int n, int what) {
            if (!known(n)) return -1;
            if (!in(what, 0, 7)) return -2;
            Layer l = s.layers.get(n);
            long[] told = {l.thick, l.dense, l.grain, l.hard, l.wet ? 1 : 0, strength(l), depth(s.layers, n), load(s.layers, n)};
            return (int) told[what];
        }

        int slope(int n, int steep, int what) {
            if (!known(n)) return -1;
            if (!in(steep, 0, 100) || !in(what, 0, 1)) return -2;
            return (int) (what == 0 ? shear(n, steep) : margin(n, steep));
        }

        int weakest(int steep, int what) {
            if (!in(steep, 0, 100) || !in(what, 0, 1)) return -2;
            if (s.layers.size() < 2) return -6;
            int best = 0;
            for (int n = 1; n + 1 < s.layers.size(); n++) {
                if (margin(n, steep) <= margin(best, steep)) best = n;
            }
            return what == 0 ? best : (int) margin(best, steep);
        }

        int blow(int v) {
            if (!in(v, 1, 50)) return -2;
            int was = s.blow;
            s.blow = v;
            return was;
        }

        int taps(int i, int what) {
            if (!in(what, 0, 2)) return -2;
            List<int[]> told = breaks(s.blow, 30);
            if (i == -1) return told.size();
            return in(i, 0, told.size() - 1) ? told.get(i)[what] : -6;
        }

        int need(int n) {
            if (!in(n, 1, 30)) return -2;
            for (int v = 1; v <= 50; v++) {
                if (!breaks(v, n).isEmpty()) return v;
            }
            return -6;
        }

        boolean slabGoes(int n, int steep, int weight) {
            return shear(n, steep) + press(s.layers, n, weight) >= strength(s.layers.get(n));
        }

        int goes(int n, int steep, int weight) {
            if (!known(n)) return -1;
            if (!in(steep, 0, 100) || !in(weight, 0, 99)) return -2;
            if (n == s.layers.size() - 1) return -3;
            return slabGoes(n, steep, weight) ? 1 : 0;
        }

        int steep(int weight, int what) {
            if (!in(weight, 0, 99) || !in(what, 0, 1)) return -2;
            for (int steep = 0; steep <= 100; steep++) {
                int which = -1;
                for (int n = 0; n + 1 < s.layers.size(); n++) {
                    if (slabGoes(n, steep, weight)) which = n;
                }
                if (which >= 0) return what == 0 ? steep : which;
            }
            return -6;
        }

        int pack(int v) {
            if (!in(v, 1, 200)) return -2;
            if (s.layers.isEmpty()) return -3;
            Layer l = s.layers.get(s.layers.size() - 1);
            int mass = l.thick * l.dense;
            l.dense += v;
            if (l.dense > 600) l.dense = 600;
            l.thick = mass / l.dense;
            if (l.thick < 1) l.thick = 1;
            if (l.hard < 5) l.hard++;
            return l.hard;
        }

        int settle(int p) {
            if (!in(p, 1, 50)) return -2;
            if (s.layers.isEmpty()) return -3;
            int all = 0;
            for (Layer l : s.layers) {
                if (l.grain != 4) {
                    int mass = l.thick * l.dense;
                    l.thick = l.thick * (100 - p) / 100;
                    if (l.thick == 0) l.thick = 1;
                    l.dense = mass / l.thick;
                    if (l.dense > 600) l.dense = 600;
                }
                all += l.thick;
            }
            return all;
        }

        int melt(int m) {
            if (!in(m, 1, 300)) return -2;
            if (s.layers.isEmpty()) return -3;
            for (int gone = 0; gone < m && !s.layers.isEmpty(); gone++) {
                Layer l = s.layers.get(s.layers.size() - 1);
                l.thick--;
                if (l.thick == 0) s.layers.remove(s.layers.size() - 1);
            }
            for (int n = s.layers.size() - 1; n >= 0; n--) {
                if (s.layers.get(n).grain == 4) break;
                s.layers.get(n).wet = true;
            }
            return s.layers.size();
        }

        int freeze() {
            int were = 0;
            for (Layer l : s.layers) {
                if (l.wet) {
                    were++;
                    l.wet = false;
                    l.grain = 4;
                    l.hard = 5;
                }
            }
            return were;
        }

        int slide() {
            if (s.layers.isEmpty()) return -3;
            s.layers.remove(s.layers.size() - 1);
            return s.layers.size();
        }

        static int heatIn(int side, int hour) {
            if (hour < 6 || hour > 18) return 0;
            int one = Math.floorMod(45 * side - 15 * hour, 360);
            int other = Math.floorMod(15 * hour - 45 * side, 360);
            int heat = 90 - (one < other ? one : other);
            return heat < 0 ? 0 : heat;
        }

        static int sum(int side, int hour) {
            int all = 0;
            for (int h = 0; h <= hour; h++) all += heatIn(side, h);
            return all;
        }

        int heat(int side, int hour, int what) {
            if (!in(side, 0, 7)) return -1;
            if (!in(hour, 0, 23) || !in(what, 0, 1)) return -2;
            return what == 0 ? heatIn(side, hour) : sum(side, hour);
        }

        int warm(int side, int t) {
            if (!in(side, 0, 7)) return -1;
            if (!in(t, 1, 999)) return -2;
            for (int h = 0; h < 24; h++) {
                if (sum(side, h) >= t) return h;
            }
            return -6;
        }

        int order(int t, int i) {
            if (!in(t, 1, 999)) return -2;
            List<Integer> sides = new ArrayList<>();
            for (int side = 0; side < 8; side++) {
                if (warm(side, t) != -6) sides.add(side);
            }
            sides.sort((a, b) -> warm(a, t) != warm(b, t) ? warm(a, t) - warm(b, t) : a - b);
            if (i == -1) return sides.size();
            return in(i, 0, sides.size() - 1) ? sides.get(i) : -6;
        }

        int image(int k) {
            if (!in(k, 0, 1)) return -2;
            images[k] = s.copy();
            return 1;
        }

        int restore(int k) {
            if (!in(k, 0, 1)) return -2;
            if (images[k] == null) return -3;
            s = images[k].copy();
            return 1;
        }

        int count(int what) {
            if (in(what, 10, 14)) return s.firm[what - 10];
            if (what == 0) return s.layers.size();
            if (what == 1) return s.layers.stream().mapToInt(l -> l.thick).sum();
            if (what == 2) return s.layers.stream().mapToInt(l -> l.thick * l.dense).sum();
            if (what == 3) return s.blow;
            if (what == 4) return (images[0] != null ? 1 : 0) + (images[1] != null ? 2 : 0);
            return -2;
        }
    }

    private static final String[] NAMES = {"storm", "firm", "layer", "slope", "weakest", "blow", "taps", "need", "goes", "steep",
        "pack", "settle", "melt", "freeze", "slide", "heat", "warm", "order", "image", "restore", "count"};
    /** What each call's arguments are as told, pairs of least and most. */
    private static final int[][] TOLD = {{1, 200, 30, 600, 0, 4, 1, 5}, {0, 4, 1, 99}, {0, 9, 0, 7}, {0, 9, 0, 100, 0, 1},
        {0, 100, 0, 1}, {1, 50}, {-1, 9, 0, 2}, {1, 30}, {0, 9, 0, 100, 0, 99}, {0, 99, 0, 1}, {1, 200}, {1, 50}, {1, 300}, {},
        {}, {0, 7, 0, 23, 0, 1}, {0, 7, 1, 999}, {1, 999, -1, 8}, {0, 1}, {0, 1}, {0, 14}};

    private static int call(SnowSlabs x, int kind, int[] a) {
        switch (kind) {
            case 0: return x.storm(a[0], a[1], a[2], a[3]);
            case 1: return x.firm(a[0], a[1]);
            case 2: return x.layer(a[0], a[1]);
            case 3: return x.slope(a[0], a[1], a[2]);
            case 4: return x.weakest(a[0], a[1]);
            case 5: return x.blow(a[0]);
            case 6: return x.taps(a[0], a[1]);
            case 7: return x.need(a[0]);
            case 8: return x.goes(a[0], a[1], a[2]);
            case 9: return x.steep(a[0], a[1]);
            case 10: return x.pack(a[0]);
            case 11: return x.settle(a[0]);
            case 12: return x.melt(a[0]);
            case 13: return x.freeze();
            case 14: return x.slide();
            case 15: return x.heat(a[0], a[1], a[2]);
            case 16: return x.warm(a[0], a[1]);
            case 17: return x.order(a[0], a[1]);
            case 18: return x.image(a[0]);
            case 19: return x.restore(a[0]);
            default: return x.count(a[0]);
        }
    }

    private static int call(Model x, int kind, int[] a) {
        switch (kind) {
            case 0: return x.storm(a[0], a[1], a[2], a[3]);
            case 1: return x.firm(a[0], a[1]);
            case 2: return x.layer(a[0], a[1]);
            case 3: return x.slope(a[0], a[1], a[2]);
            case 4: return x.weakest(a[0], a[1]);
            case 5: return x.blow(a[0]);
            case 6: return x.taps(a[0], a[1]);
            case 7: return x.need(a[0]);
            case 8: return x.goes(a[0], a[1], a[2]);
            case 9: return x.steep(a[0], a[1]);
            case 10: return x.pack(a[0]);
            case 11: return x.settle(a[0]);
            case 12: return x.melt(a[0]);
            case 13: return x.freeze();
            case 14: return x.slide();
            case 15: return x.heat(a[0], a[1], a[2]);
            case 16: return x.warm(a[0], a[1]);
            case 17: return x.order(a[0], a[1]);
            case 18: return x.image(a[0]);
            case 19: return x.restore(a[0]);
            default: return x.count(a[0]);
        }
    }

    /** Storms come often and great melts seldom, so that there is mostly something to judge. */
    private static int chooseKind(Random random) {
        int kind = random.nextInt(KINDS + 3);
        if (kind >= KINDS) return 0;
        if ((kind == 12 || kind == 14 || kind == 19) && random.nextInt(3) > 0) return 2;
        return kind;
    }

    private static int[] chooseArguments(Random random, int kind, int wildness) {
        int[] told = TOLD[kind];
        int[] a = new int[told.length / 2];
        for (int i = 0; i < a.length; i++) {
            int least = told[2 * i], most = told[2 * i + 1];
            // Small numbers lie nearer to the edges at which a layer breaks or goes.
            int span = random.nextBoolean() ? most - least + 1 : Math.min(most - least + 1, 12);
            a[i] = least + random.nextInt(span);
            if (random.nextInt(100) < wildness) a[i] = WILD[random.nextInt(WILD.length)];
        }
        return a;
    }

    private static boolean sameRun(int run, int[] answered) {
        Random random = new Random(run);
        SnowSlabs x = new SnowSlabs();
        Model model = new Model();
        for (int c = 0; c < CALLS; c++) {
            int kind = chooseKind(random);
            int[] a = chooseArguments(random, kind, run % 4 == 0 ? 15 : 1);
            int want = call(model, kind, a);
            int got = call(x, kind, a);
            if (got != want) {
                System.out.println("run " + run + ", call " + c + ": " + NAMES[kind] + Arrays.toString(a) + " answered " + got
                    + ", due is " + want);
                return false;
            }
            if (want >= 0) answered[kind]++;
        }
        return true;
    }

    /** On a new object each: what comes after 512 calls is free. */
    private static boolean sameSun(Model model, int kind, int... a) {
        int want = call(model, kind, a);
        int got = call(new SnowSlabs(), kind, a);
        if (got != want) {
            System.out.println(NAMES[kind] + Arrays.toString(a) + " answered " + got + ", due is " + want);
        }
        return got == want;
    }

    /** The sun knows nothing of the snow, so all that can be asked of it is asked, with one beside each limit. */
    private static int wholeSun() {
        Model model = new Model();
        int wrong = 0;
        for (int side = -1; side <= 8; side++) {
            for (int hour = -1; hour <= 24; hour++) {
                for (int what = -1; what <= 2; what++) {
                    if (!sameSun(model, 15, side, hour, what)) wrong++;
                }
            }
            for (int t = 0; t <= 1000; t++) {
                if (!sameSun(model, 16, side, t)) wrong++;
            }
        }
        for (int t = 0; t <= 1000; t++) {
            for (int i = -2; i <= 8; i++) {
                if (!sameSun(model, 17, t, i)) wrong++;
            }
        }
        return wrong;
    }

    public static void main(String[] args) {
        int wrong = wholeSun();
        int[] answered = new int[KINDS];
        for (int run = 0; run < RUNS; run++) {
            if (!sameRun(run, answered)) wrong++;
        }
        for (int kind = 0; kind < KINDS; kind++) {
            if (answered[kind] < 1000) {
                wrong++;
                System.out.println(NAMES[kind] + " was seldom answered: " + answered[kind]);
            }
        }
        System.out.println(wrong == 0 ? "all runs are as the model's" : wrong + " faults");
        if (wrong != 0) System.exit(1);
    }
}
