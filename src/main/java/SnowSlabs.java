/** Layers of snow, judged. */
public final class SnowSlabs {
    public static final int UNKNOWN = -1, OUTSIDE = -2, STATE = -3, FULL = -4, NO = -5, NONE = -6;

    private static final int MOST_LAYERS = 10;
    private static final int MOST_THICK = 200;
    private static final int LEAST_DENSE = 30;
    private static final int MOST_DENSE = 600;
    private static final int GRAINS = 5;
    private static final int ICE = 4;
    private static final int MOST_HARD = 5;
    private static final int MOST_FIRM = 99;
    private static final int MOST_STEEP = 100;
    private static final int MOST_WEIGHT = 99;
    private static final int MOST_BLOW = 50;
    private static final int FIRST_BLOW = 10;
    private static final int ALL_TAPS = 30;
    private static final int MOST_PACKING = 200;
    private static final int MOST_SETTLING = 50;
    private static final int MOST_MELTING = 300;
    private static final int SIDES = 8;
    private static final int HOURS = 24;
    private static final int MOST_WARMTH = 999;
    private static final int IMAGES = 2;
    private static final int NO_SHEAR_MARGIN = 9999;

    private static final int[] FIRST_FIRM = {8, 20, 6, 3, 40};

    private final Cover cover;
    private final TapTest tapTest;
    private final Cover[] images;

    public SnowSlabs() {
        cover = new Cover();
        tapTest = new TapTest();
        images = new Cover[IMAGES];
    }

    // ---- 1 layers

    public int storm(int thick, int dense, int grain, int hard) {
        if (!within(thick, 1, MOST_THICK) || !within(dense, LEAST_DENSE, MOST_DENSE)) {
            return OUTSIDE;
        }
        if (!within(grain, 0, GRAINS - 1) || !within(hard, 1, MOST_HARD)) {
            return OUTSIDE;
        }
        if (cover.size >= MOST_LAYERS) {
            return FULL;
        }
        return cover.addTop(thick, dense, grain, hard);
    }

    public int firm(int grain, int v) {
        if (!within(grain, 0, GRAINS - 1)) {
            return UNKNOWN;
        }
        if (!within(v, 1, MOST_FIRM)) {
            return OUTSIDE;
        }
        int was = cover.firmness[grain];
        cover.firmness[grain] = v;
        return was;
    }

    public int layer(int layer, int what) {
        if (!cover.has(layer)) {
            return UNKNOWN;
        }
        switch (what) {
            case 0: return cover.thick[layer];
            case 1: return cover.dense[layer];
            case 2: return cover.grain[layer];
            case 3: return cover.hard[layer];
            case 4: return cover.wet[layer] ? 1 : 0;
            case 5: return cover.strength(layer);
            case 6: return cover.depth(layer, cover.size);
            case 7: return cover.load(layer, cover.size);
            default: return OUTSIDE;
        }
    }

    public int slope(int layer, int steep, int what) {
        if (!cover.has(layer)) {
            return UNKNOWN;
        }
        if (!within(steep, 0, MOST_STEEP) || !within(what, 0, 1)) {
            return OUTSIDE;
        }
        return what == 0 ? cover.shear(layer, steep) : cover.margin(layer, steep);
    }

    public int weakest(int steep, int what) {
        if (!within(steep, 0, MOST_STEEP) || !within(what, 0, 1)) {
            return OUTSIDE;
        }
        int found = cover.leastMargin(steep);
        if (found == NONE) {
            return NONE;
        }
        return what == 0 ? found : cover.margin(found, steep);
    }

    // ---- 2 taps

    public int blow(int v) {
        if (!within(v, 1, MOST_BLOW)) {
            return OUTSIDE;
        }
        int was = cover.blowWeight;
        cover.blowWeight = v;
        return was;
    }

    public int taps(int i, int what) {
        if (!within(what, 0, 2)) {
            return OUTSIDE;
        }
        tapTest.run(cover);
        if (i == -1) {
            return tapTest.breaks;
        }
        if (!within(i, 0, tapTest.breaks - 1)) {
            return NONE;
        }
        switch (what) {
            case 0: return tapTest.tapOf[i];
            case 1: return tapTest.layerOf[i];
            default: return tapTest.isClean(cover, i) ? 1 : 0;
        }
    }

    public int need(int n) {
        if (!within(n, 1, ALL_TAPS)) {
            return OUTSIDE;
        }
        // Taps never get lighter, so the whole block breaks by taps 1 to n just if it does by tap n.
        for (int v = 1; v <= MOST_BLOW; v++) {
            if (cover.breaking(cover.size, TapTest.weightOf(n, v)) != NONE) {
                return v;
            }
        }
        return NONE;
    }

    // ---- 3 slabs, days, sides

    public int goes(int layer, int steep, int weight) {
        if (!cover.has(layer)) {
            return UNKNOWN;
        }
        if (!within(steep, 0, MOST_STEEP) || !within(weight, 0, MOST_WEIGHT)) {
            return OUTSIDE;
        }
        if (layer == cover.size - 1) {
            return STATE;
        }
        return cover.slabGoes(layer, steep, weight) ? 1 : 0;
    }

    public int steep(int weight, int what) {
        if (!within(weight, 0, MOST_WEIGHT) || !within(what, 0, 1)) {
            return OUTSIDE;
        }
        for (int steep = 0; steep <= MOST_STEEP; steep++) {
            int going = cover.going(steep, weight);
            if (going != NONE) {
                return what == 0 ? steep : going;
            }
        }
        return NONE;
    }

    public int pack(int v) {
        if (!within(v, 1, MOST_PACKING)) {
            return OUTSIDE;
        }
        if (cover.size == 0) {
            return STATE;
        }
        return cover.packTop(v);
    }

    public int settle(int p) {
        if (!within(p, 1, MOST_SETTLING)) {
            return OUTSIDE;
        }
        if (cover.size == 0) {
            return STATE;
        }
        cover.settleAll(p);
        return cover.allThick();
    }

    public int melt(int m) {
        if (!within(m, 1, MOST_MELTING)) {
            return OUTSIDE;
        }
        if (cover.size == 0) {
            return STATE;
        }
        cover.meltAway(m);
        cover.wetFromTop();
        return cover.size;
    }

    public int freeze() {
        return cover.freezeWet();
    }

    public int slide() {
        if (cover.size == 0) {
            return STATE;
        }
        cover.size--;
        return cover.size;
    }

    public int heat(int side, int hour, int what) {
        if (!within(side, 0, SIDES - 1)) {
            return UNKNOWN;
        }
        if (!within(hour, 0, HOURS - 1) || !within(what, 0, 1)) {
            return OUTSIDE;
        }
        return what == 0 ? Sun.heatIn(side, hour) : Sun.heatUpTo(side, hour);
    }

    public int warm(int side, int t) {
        if (!within(side, 0, SIDES - 1)) {
            return UNKNOWN;
        }
        if (!within(t, 1, MOST_WARMTH)) {
            return OUTSIDE;
        }
        return Sun.warmHour(side, t);
    }

    public int order(int t, int i) {
        if (!within(t, 1, MOST_WARMTH)) {
            return OUTSIDE;
        }
        return i == -1 ? Sun.warmSides(t) : Sun.sideAtPlace(t, i);
    }

    // ---- 4 images

    public int image(int k) {
        if (!within(k, 0, IMAGES - 1)) {
            return OUTSIDE;
        }
        // One cover for each image, used again, keeps what a long run makes small.
        if (images[k] == null) {
            images[k] = new Cover();
        }
        images[k].takeFrom(cover);
        return 1;
    }

    public int restore(int k) {
        if (!within(k, 0, IMAGES - 1)) {
            return OUTSIDE;
        }
        if (images[k] == null) {
            return STATE;
        }
        cover.takeFrom(images[k]);
        return 1;
    }

    public int count(int what) {
        if (within(what, 10, 10 + GRAINS - 1)) {
            return cover.firmness[what - 10];
        }
        switch (what) {
            case 0: return cover.size;
            case 1: return cover.allThick();
            case 2: return cover.massAbove(-1, cover.size);
            case 3: return cover.blowWeight;
            case 4: return keptSet();
            default: return OUTSIDE;
        }
    }

    private int keptSet() {
        int set = 0;
        for (int k = 0; k < IMAGES; k++) {
            if (images[k] != null) {
                set |= 1 << k;
            }
        }
        return set;
    }

    private static boolean within(int number, int least, int most) {
        return number >= least && number <= most;
    }

    /** A quotient, cut; every divisor here is above 0 by the limits, and is looked at all the same. */
    private static int cut(int number, int by) {
        return by == 0 ? 0 : number / by;
    }

    /** All that an image keeps: the layers from the ground up, how firm grains are, and the blow. */
    private static final class Cover {
        int size;
        int blowWeight;
        final int[] thick;
        final int[] dense;
        final int[] grain;
        final int[] hard;
        final boolean[] wet;
        final int[] firmness;

        Cover() {
            size = 0;
            blowWeight = FIRST_BLOW;
            thick = new int[MOST_LAYERS];
            dense = new int[MOST_LAYERS];
            grain = new int[MOST_LAYERS];
            hard = new int[MOST_LAYERS];
            wet = new boolean[MOST_LAYERS];
            firmness = FIRST_FIRM.clone();
        }

        void takeFrom(Cover other) {
            size = other.size;
            blowWeight = other.blowWeight;
            System.arraycopy(other.thick, 0, thick, 0, MOST_LAYERS);
            System.arraycopy(other.dense, 0, dense, 0, MOST_LAYERS);
            System.arraycopy(other.grain, 0, grain, 0, MOST_LAYERS);
            System.arraycopy(other.hard, 0, hard, 0, MOST_LAYERS);
            System.arraycopy(other.wet, 0, wet, 0, MOST_LAYERS);
            System.arraycopy(other.firmness, 0, firmness, 0, GRAINS);
        }

        boolean has(int layer) {
            return within(layer, 0, size - 1);
        }

        /** The caller has seen that there is room. */
        int addTop(int itsThick, int itsDense, int itsGrain, int itsHard) {
            int top = size;
            thick[top] = itsThick;
            dense[top] = itsDense;
            grain[top] = itsGrain;
            hard[top] = itsHard;
            wet[top] = false;
            size = top + 1;
            return top;
        }

        int strength(int layer) {
            int dry = firmness[grain[layer]] * hard[layer] * dense[layer] / 100;
            return wet[layer] ? dry / 2 : dry;
        }

        /** Of the layers above this one and below number end: a block may be lower than the cover. */
        int depth(int layer, int end) {
            int sum = 0;
            for (int above = layer + 1; above < end; above++) {
                sum += thick[above];
            }
            return sum;
        }

        int massAbove(int layer, int end) {
            int sum = 0;
            for (int above = layer + 1; above < end; above++) {
                sum += thick[above] * dense[above];
            }
            return sum;
        }

        int load(int layer, int end) {
            return massAbove(layer, end) / 100;
        }

        int press(int layer, int end, int weight) {
            return cut(100 * weight, depth(layer, end) + 10);
        }

        int shear(int layer, int steepness) {
            return load(layer, size) * steepness / 100;
        }

        int margin(int layer, int steepness) {
            int shear = shear(layer, steepness);
            return shear == 0 ? NO_SHEAR_MARGIN : 100 * strength(layer) / shear;
        }

        int allThick() {
            return depth(-1, size);
        }

        /** The weakest layer's number, or NONE. */
        int leastMargin(int steepness) {
            int found = NONE;
            int least = 0;
            for (int layer = size - 2; layer >= 0; layer--) {
                int margin = margin(layer, steepness);
                if (found == NONE || margin < least) {
                    found = layer;
                    least = margin;
                }
            }
            return found;
        }

        /** The uppermost layer that breaks in the block of the layers below number end, or NONE. */
        int breaking(int end, int weight) {
            for (int layer = end - 2; layer >= 0; layer--) {
                if (load(layer, end) + press(layer, end, weight) >= strength(layer)) {
                    return layer;
                }
            }
            return NONE;
        }

        boolean slabGoes(int layer, int steepness, int weight) {
            return shear(layer, steepness) + press(layer, size, weight) >= strength(layer);
        }

        /** The uppermost layer that goes, or NONE. */
        int going(int steepness, int weight) {
            for (int layer = size - 2; layer >= 0; layer--) {
                if (slabGoes(layer, steepness, weight)) {
                    return layer;
                }
            }
            return NONE;
        }

        /** The caller has seen that there is a layer. */
        int packTop(int v) {
            int top = size - 1;
            int was = dense[top];
            dense[top] = Math.min(MOST_DENSE, was + v);
            thick[top] = Math.max(1, cut(thick[top] * was, dense[top]));
            hard[top] = Math.min(MOST_HARD, hard[top] + 1);
            return hard[top];
        }

        void settleAll(int p) {
            for (int layer = 0; layer < size; layer++) {
                if (grain[layer] != ICE) {
                    int mass = thick[layer] * dense[layer];
                    thick[layer] = Math.max(1, thick[layer] * (100 - p) / 100);
                    dense[layer] = Math.min(MOST_DENSE, cut(mass, thick[layer]));
                }
            }
        }

        void meltAway(int m) {
            int rest = m;
            while (size > 0 && rest >= thick[size - 1]) {
                rest -= thick[size - 1];
                size--;
            }
            if (size > 0) {
                thick[size - 1] -= rest;
            }
        }

        void wetFromTop() {
            for (int layer = size - 1; layer >= 0 && grain[layer] != ICE; layer--) {
                wet[layer] = true;
            }
        }

        /** How many were wet. */
        int freezeWet() {
            int frozen = 0;
            for (int layer = 0; layer < size; layer++) {
                if (wet[layer]) {
                    grain[layer] = ICE;
                    hard[layer] = MOST_HARD;
                    wet[layer] = false;
                    frozen++;
                }
            }
            return frozen;
        }
    }

    /** The breaks of a block that is tapped; its rows are used again by every run. */
    private static final class TapTest {
        int breaks;
        final int[] tapOf;
        final int[] layerOf;

        TapTest() {
            breaks = 0;
            // Each break lowers the block, so there are never as many breaks as layers.
            tapOf = new int[MOST_LAYERS];
            layerOf = new int[MOST_LAYERS];
        }

        static int weightOf(int tap, int blowWeight) {
            if (tap <= 10) {
                return blowWeight;
            }
            return tap <= 20 ? 2 * blowWeight : 4 * blowWeight;
        }

        void run(Cover cover) {
            breaks = 0;
            int end = cover.size;
            for (int tap = 1; tap <= ALL_TAPS; tap++) {
                int broken = cover.breaking(end, weightOf(tap, cover.blowWeight));
                if (broken != NONE && breaks < MOST_LAYERS) {
                    tapOf[breaks] = tap;
                    layerOf[breaks] = broken;
                    breaks++;
                    end = broken + 1;
                }
            }
        }

        /** A layer that broke had one just on it, so the number above its own is there. */
        boolean isClean(Cover cover, int i) {
            int layer = layerOf[i];
            return Math.abs(cover.hard[layer + 1] - cover.hard[layer]) >= 2;
        }
    }

    /** The sun of every day; it knows nothing of the snow. */
    private static final class Sun {
        static int heatIn(int side, int hour) {
            if (!within(hour, 6, 18)) {
                return 0;
            }
            int apart = Math.abs(45 * side - 15 * hour);
            int shorter = Math.min(apart, 360 - apart);
            return Math.max(0, 90 - shorter);
        }

        static int heatUpTo(int side, int hour) {
            int sum = 0;
            for (int h = 0; h <= hour; h++) {
                sum += heatIn(side, h);
            }
            return sum;
        }

        static int warmHour(int side, int t) {
            int sum = 0;
            for (int hour = 0; hour < HOURS; hour++) {
                sum += heatIn(side, hour);
                if (sum >= t) {
                    return hour;
                }
            }
            return NONE;
        }

        static int warmSides(int t) {
            int sides = 0;
            for (int side = 0; side < SIDES; side++) {
                if (warmHour(side, t) != NONE) {
                    sides++;
                }
            }
            return sides;
        }

        /** Going by hours and then by numbers meets the sides in their order, with no row to sort. */
        static int sideAtPlace(int t, int place) {
            int passed = 0;
            for (int hour = 0; hour < HOURS; hour++) {
                for (int side = 0; side < SIDES; side++) {
                    if (warmHour(side, t) == hour) {
                        if (passed == place) {
                            return side;
                        }
                        passed++;
                    }
                }
            }
            return NONE;
        }
    }
}
