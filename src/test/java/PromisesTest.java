/** Runs worked out by hand from the document, at least one group for each promise. */
public final class PromisesTest {
    private static final int MIN = Integer.MIN_VALUE, MAX = Integer.MAX_VALUE;
    private static int wrong = 0;

    private static void due(String call, int got, int want) {
        if (got != want) {
            wrong++;
            System.out.println(call + " answered " + got + ", due is " + want);
        }
    }

    public static void main(String[] args) {
        newObject();
        storm();
        firm();
        layer();
        slope();
        weakest();
        blow();
        taps();
        tapsOn();
        need();
        goes();
        steep();
        pack();
        settle();
        melt();
        freeze();
        slide();
        heat();
        warm();
        order();
        images();
        count();
        refusalsChangeNothing();
        fullCover();
        System.out.println(wrong == 0 ? "all promises hold" : wrong + " answers are not as due");
        if (wrong != 0) {
            System.exit(1);
        }
    }

    private static void newObject() {
        SnowSlabs x = new SnowSlabs();
        due("1 layers", x.count(0), 0);
        due("1 thick", x.count(1), 0);
        due("1 mass", x.count(2), 0);
        due("1 blow", x.count(3), 10);
        due("1 images", x.count(4), 0);
        int[] firm = {8, 20, 6, 3, 40};
        for (int g = 0; g < 5; g++) {
            due("1 firm of " + g, x.count(10 + g), firm[g]);
        }
        due("1 restore(0)", x.restore(0), -3);
        due("1 restore(1)", x.restore(1), -3);
    }

    private static void storm() {
        SnowSlabs x = new SnowSlabs();
        int[][] bad = {{0, 100, 0, 1}, {201, 100, 0, 1}, {1, 29, 0, 1}, {1, 601, 0, 1}, {1, 30, -1, 1}, {1, 30, 5, 1},
            {1, 30, 0, 0}, {1, 30, 0, 6}, {MIN, 30, 0, 1}, {1, MAX, 0, 1}, {1, 30, MIN, 1}, {1, 30, MAX, 1}, {1, 30, 0, MAX}};
        for (int[] b : bad) {
            due("2 storm outside", x.storm(b[0], b[1], b[2], b[3]), -2);
        }
        due("2 nothing came", x.count(0), 0);
        due("2 least", x.storm(1, 30, 0, 1), 0);
        due("2 most", x.storm(200, 600, 4, 5), 1);
        for (int n = 2; n < 10; n++) {
            due("2 storm " + n, x.storm(10 + n, 100 + n, n % 5, 1 + n % 5), n);
        }
        due("2 full", x.storm(1, 30, 0, 1), -4);
        due("2 outside goes before full", x.storm(0, 30, 0, 1), -2);
        due("2 still ten", x.count(0), 10);
        due("2 thick", x.layer(7, 0), 17);
        due("2 dense", x.layer(7, 1), 107);
        due("2 grain", x.layer(7, 2), 2);
        due("2 hard", x.layer(7, 3), 3);
        SnowSlabs y = new SnowSlabs();
        y.storm(10, 100, 0, 1);
        y.melt(1);
        due("2 wet", y.layer(0, 4), 1);
        y.slide();
        y.storm(10, 100, 0, 1);
        due("2 comes dry", y.layer(0, 4), 0);
    }

    private static void firm() {
        SnowSlabs x = new SnowSlabs();
        due("3 below", x.firm(-1, 5), -1);
        due("3 above", x.firm(5, 5), -1);
        due("3 far", x.firm(MAX, 5), -1);
        due("3 unknown goes first", x.firm(5, 0), -1);
        due("3 v 0", x.firm(4, 0), -2);
        due("3 v 100", x.firm(4, 100), -2);
        due("3 v far", x.firm(4, MIN), -2);
        due("3 was", x.firm(4, 99), 40);
        due("3 was 99", x.firm(4, 1), 99);
        due("3 is 1", x.count(14), 1);
        due("3 others stay", x.count(13), 3);
        x.storm(10, 600, 1, 5);
        due("3 strength", x.layer(0, 5), 600);
        due("3 changes", x.firm(1, 99), 20);
        due("3 strength then", x.layer(0, 5), 2970);
    }

    private static void layer() {
        SnowSlabs x = new SnowSlabs();
        due("4 none", x.layer(0, 0), -1);
        x.storm(7, 33, 3, 1);
        x.storm(11, 199, 1, 2);
        x.storm(13, 99, 0, 3);
        due("4 below", x.layer(-1, 0), -1);
        due("4 above", x.layer(3, 0), -1);
        due("4 far", x.layer(MAX, 0), -1);
        due("4 unknown goes first", x.layer(3, 8), -1);
        due("4 what -1", x.layer(0, -1), -2);
        due("4 what 8", x.layer(0, 8), -2);
        int[] ground = {7, 33, 3, 1, 0, 0, 24, 34};
        int[] middle = {11, 199, 1, 2, 0, 79, 13, 12};
        int[] top = {13, 99, 0, 3, 0, 23, 0, 0};
        for (int what = 0; what < 8; what++) {
            due("4 ground " + what, x.layer(0, what), ground[what]);
            due("4 middle " + what, x.layer(1, what), middle[what]);
            due("4 top " + what, x.layer(2, what), top[what]);
        }
        // The masses are added before the cut: 99 and 99 make a load of 1, not of 0.
        SnowSlabs y = new SnowSlabs();
        y.storm(1, 30, 0, 1);
        y.storm(1, 99, 0, 1);
        y.storm(1, 99, 0, 1);
        due("4 load is cut once", y.layer(0, 7), 1);
        // 20 times 1 times 55 by 100 is 11, and half of it 5.
        SnowSlabs z = new SnowSlabs();
        z.storm(10, 55, 1, 1);
        z.melt(1);
        due("4 wet", z.layer(0, 4), 1);
        due("4 half strength", z.layer(0, 5), 5);
    }

    private static void slope() {
        SnowSlabs x = new SnowSlabs();
        x.storm(10, 100, 1, 2);
        x.storm(33, 47, 0, 1);
        // Load 15 (1551 by 100), strength 40.
        due("5 unknown", x.slope(2, 10, 0), -1);
        due("5 unknown below", x.slope(-1, 10, 0), -1);
        due("5 unknown goes first", x.slope(2, 101, 2), -1);
        due("5 steep -1", x.slope(0, -1, 0), -2);
        due("5 steep 101", x.slope(0, 101, 0), -2);
        due("5 what -1", x.slope(0, 1, -1), -2);
        due("5 what 2", x.slope(0, 1, 2), -2);
        due("5 shear 100", x.slope(0, 100, 0), 15);
        due("5 shear 60", x.slope(0, 60, 0), 9);
        due("5 shear 59", x.slope(0, 59, 0), 8);
        due("5 shear 6", x.slope(0, 6, 0), 0);
        due("5 shear 0", x.slope(0, 0, 0), 0);
        due("5 shear 7", x.slope(0, 7, 0), 1);
        due("5 margin 100", x.slope(0, 100, 1), 266);
        due("5 margin 6", x.slope(0, 6, 1), 9999);
        due("5 margin 7", x.slope(0, 7, 1), 4000);
        due("5 top's margin", x.slope(1, 100, 1), 9999);
        // Only a shear of 0 makes 9999: a great margin is told as it is.
        x.firm(1, 99);
        due("5 margin above 9999", x.slope(0, 7, 1), 19800);
    }

    private static void weakest() {
        SnowSlabs x = new SnowSlabs();
        due("6 none", x.weakest(10, 0), -6);
        due("6 outside goes before none", x.weakest(-1, 0), -2);
        x.storm(10, 100, 1, 1);
        due("6 one alone", x.weakest(100, 0), -6);
        due("6 one alone, margin", x.weakest(100, 1), -6);
        x.storm(10, 100, 1, 1);
        x.storm(10, 100, 1, 1);
        due("6 steep 101", x.weakest(101, 0), -2);
        due("6 what -1", x.weakest(100, -1), -2);
        due("6 what 2", x.weakest(100, 2), -2);
        // Strengths 20; loads 20 and 10.
        due("6 ground", x.weakest(100, 0), 0);
        due("6 its margin", x.weakest(100, 1), 100);
        due("6 like ones: the upper", x.weakest(0, 0), 1);
        due("6 like ones: margin", x.weakest(0, 1), 9999);
        // A margin above 9999 is no less than that of a layer without shear.
        SnowSlabs y = new SnowSlabs();
        y.storm(10, 600, 4, 5);
        y.storm(10, 30, 3, 1);
        y.storm(1, 30, 3, 1);
        due("6 ground's margin", y.slope(0, 50, 1), 120000);
        due("6 9999 is the least", y.weakest(50, 0), 1);
        due("6 which is told", y.weakest(50, 1), 9999);
    }

    private static void blow() {
        SnowSlabs x = new SnowSlabs();
        due("7 zero", x.blow(0), -2);
        due("7 51", x.blow(51), -2);
        due("7 far", x.blow(MIN), -2);
        due("7 was 10", x.blow(50), 10);
        due("7 was 50", x.blow(1), 50);
        due("7 is 1", x.count(3), 1);
    }

    private static void taps() {
        SnowSlabs x = new SnowSlabs();
        due("8 none", x.taps(-1, 2), 0);
        due("8 what -1", x.taps(-1, -1), -2);
        due("8 what 3", x.taps(-1, 3), -2);
        due("8 outside goes before none", x.taps(-2, 3), -2);
        x.storm(10, 100, 1, 1);
        due("8 one alone", x.taps(-1, 0), 0);
        x.storm(40, 50, 0, 3);
        // Strength 20, load 20: breaks by the first tap; 50 deep.
        due("8 breaks", x.taps(-1, 1), 1);
        due("8 tap", x.taps(0, 0), 1);
        due("8 layer", x.taps(0, 1), 0);
        due("8 clean by 2", x.taps(0, 2), 1);
        due("8 next", x.taps(1, 0), -6);
        due("8 far", x.taps(MAX, 0), -6);
        due("8 below", x.taps(-2, 0), -6);
        due("8 far below", x.taps(MIN, 0), -6);
        SnowSlabs y = new SnowSlabs();
        y.storm(10, 100, 1, 3);
        y.storm(40, 50, 0, 2);
        // Strength 60, load 20, press 20 a 10 of weight: 40 by 10, 60 by 20.
        due("8 harder", y.taps(0, 0), 11);
        due("8 not clean by 1", y.taps(0, 2), 0);
        y.firm(1, 33);
        // Strength 99; load 20 and press 80 by weight 40.
        due("8 hardest", y.taps(0, 0), 21);
        y.firm(1, 34);
        due("8 no break", y.taps(-1, 0), 0);
        y.blow(11);
        due("8 by a greater blow", y.taps(0, 0), 21);
        y.blow(50);
        due("8 by the greatest", y.taps(0, 0), 1);
        due("8 block is a trial only", y.count(0), 2);
    }

    private static void tapsOn() {
        SnowSlabs x = new SnowSlabs();
        x.firm(0, 10);
        x.storm(10, 100, 0, 1);
        x.storm(10, 100, 0, 3);
        x.storm(10, 100, 0, 1);
        x.storm(10, 100, 0, 1);
        // Strengths 10, 30, 10; each one lays a load of 10 on those under it.
        // Tap 1: 2 bears 10 and breaks. Then 1 bears 10 and 50 of press: breaks. Then 0 under 1.
        due("8 on: how many", x.taps(-1, 0), 3);
        due("8 on: first", x.taps(0, 1), 2);
        due("8 on: second", x.taps(1, 1), 1);
        due("8 on: third", x.taps(2, 1), 0);
        due("8 on: one by a tap", x.taps(1, 0), 2);
        due("8 on: taps", x.taps(2, 0), 3);
        due("8 on: not clean", x.taps(0, 2), 0);
        due("8 on: clean, upper softer", x.taps(1, 2), 1);
        due("8 on: clean, upper harder", x.taps(2, 2), 1);
        // What is taken off bears no more on what is under it: the ground layer would break under all.
        SnowSlabs y = new SnowSlabs();
        y.storm(1, 600, 0, 5);
        y.storm(1, 30, 3, 1);
        y.storm(200, 600, 1, 1);
        due("8 off: ground would", y.goes(0, 100, 0), 1);
        y.blow(1);
        due("8 off: breaks", y.taps(-1, 0), 1);
        due("8 off: which", y.taps(0, 1), 1);
        y.blow(50);
        // Strength 240; by 50 of weight a press of 454 with only layer 1 on it: it breaks in tap 2.
        due("8 off: press is nearer then", y.taps(1, 0), 2);
        y.blow(6);
        // By 6, 12, 24 it is 54, 109, 218 with a load of 0; by 7 in the end 254.
        due("8 off: too soft", y.taps(-1, 0), 1);
        y.blow(7);
        due("8 off: hard enough", y.taps(1, 0), 21);
    }

    private static void need() {
        SnowSlabs x = new SnowSlabs();
        due("9 zero", x.need(0), -2);
        due("9 31", x.need(31), -2);
        due("9 far", x.need(MAX), -2);
        due("9 none", x.need(30), -6);
        x.storm(10, 100, 1, 3);
        due("9 one alone", x.need(30), -6);
        x.storm(40, 50, 0, 2);
        // Strength 60, load 20: a press of 40 needs a weight of 20.
        due("9 by 1", x.need(1), 20);
        due("9 by 10", x.need(10), 20);
        due("9 by 11", x.need(11), 10);
        due("9 by 20", x.need(20), 10);
        due("9 by 21", x.need(21), 5);
        due("9 by 30", x.need(30), 5);
        due("9 blow stays", x.count(3), 10);
        x.firm(1, 40);
        // Strength 120: a press of 100 is a weight of 50.
        due("9 the most", x.need(10), 50);
        x.firm(1, 41);
        due("9 not by taps 1 to 10", x.need(10), -6);
        due("9 by harder ones", x.need(11), 26);
        SnowSlabs y = new SnowSlabs();
        y.storm(1, 30, 3, 1);
        y.storm(1, 30, 3, 1);
        due("9 the least", y.need(1), 1);
    }

    private static void goes() {
        SnowSlabs x = new SnowSlabs();
        due("10 none", x.goes(0, 0, 0), -1);
        x.storm(10, 100, 1, 2);
        due("10 alone", x.goes(0, 100, 99), -3);
        x.storm(40, 100, 0, 1);
        // Strength 40, load 40, depth 40.
        due("10 unknown", x.goes(2, 0, 0), -1);
        due("10 unknown below", x.goes(-1, 101, 0), -1);
        due("10 steep -1", x.goes(0, -1, 0), -2);
        due("10 steep 101", x.goes(0, 101, 0), -2);
        due("10 weight -1", x.goes(0, 0, -1), -2);
        due("10 weight 100", x.goes(0, 0, 100), -2);
        due("10 outside goes before state", x.goes(1, 101, 0), -2);
        due("10 top", x.goes(1, 100, 99), -3);
        due("10 no less", x.goes(0, 100, 0), 1);
        due("10 less", x.goes(0, 99, 0), 0);
        due("10 less by 2 of press", x.goes(0, 97, 1), 1);
        due("10 less by 3", x.goes(0, 94, 1), 0);
        due("10 weight alone", x.goes(0, 0, 20), 1);
        due("10 weight less", x.goes(0, 0, 19), 0);
        // Depth 1, load 0: by 99 a press of 900, against a strength of 900 and then of 901.
        SnowSlabs y = new SnowSlabs();
        y.storm(10, 200, 1, 5);
        y.storm(1, 30, 0, 1);
        y.firm(1, 90);
        due("10 press of 900", y.goes(0, 0, 99), 1);
        SnowSlabs z = new SnowSlabs();
        z.storm(10, 340, 1, 5);
        z.storm(1, 30, 0, 1);
        z.firm(1, 53);
        due("10 no more than 900", z.goes(0, 0, 99), 0);
    }

    private static void steep() {
        SnowSlabs x = new SnowSlabs();
        due("11 none", x.steep(0, 0), -6);
        due("11 weight -1", x.steep(-1, 0), -2);
        due("11 weight 100", x.steep(100, 0), -2);
        due("11 what -1", x.steep(0, -1), -2);
        due("11 what 2", x.steep(0, 2), -2);
        x.storm(10, 100, 1, 2);
        due("11 one alone", x.steep(99, 1), -6);
        x.storm(40, 100, 0, 1);
        due("11 at 100", x.steep(0, 0), 100);
        due("11 which", x.steep(0, 1), 0);
        due("11 with 1", x.steep(1, 0), 95);
        due("11 with 20", x.steep(20, 0), 0);
        x.firm(1, 21);
        due("11 by none", x.steep(0, 0), -6);
        due("11 which by none", x.steep(0, 1), -6);
        // Both go by 50: the upper one is told.
        SnowSlabs y = new SnowSlabs();
        y.storm(10, 100, 1, 2);
        y.storm(10, 100, 1, 1);
        y.storm(40, 100, 1, 1);
        due("11 several", y.steep(0, 0), 50);
        due("11 the upper", y.steep(0, 1), 1);
        y.firm(1, 10);
        due("11 several still", y.steep(0, 0), 25);
        SnowSlabs z = new SnowSlabs();
        z.storm(10, 100, 1, 1);
        z.storm(10, 100, 1, 5);
        z.storm(40, 100, 1, 1);
        due("11 the lower first", z.steep(0, 0), 40);
        due("11 that is it", z.steep(0, 1), 0);
    }

    private static void pack() {
        SnowSlabs x = new SnowSlabs();
        due("12 none", x.pack(1), -3);
        due("12 outside goes before state", x.pack(0), -2);
        due("12 201", x.pack(201), -2);
        x.storm(50, 100, 1, 1);
        x.storm(50, 100, 0, 3);
        due("12 hard", x.pack(50), 4);
        due("12 dense", x.layer(1, 1), 150);
        due("12 thick", x.layer(1, 0), 33);
        due("12 hard 5", x.pack(200), 5);
        due("12 dense 350", x.layer(1, 1), 350);
        due("12 thick 14", x.layer(1, 0), 14);
        due("12 hard stays 5", x.pack(200), 5);
        due("12 dense 550", x.layer(1, 1), 550);
        due("12 thick 8", x.layer(1, 0), 8);
        x.pack(200);
        due("12 dense 600", x.layer(1, 1), 600);
        due("12 thick by 600", x.layer(1, 0), 7);
        due("12 only the top", x.layer(0, 0), 50);
        SnowSlabs y = new SnowSlabs();
        y.storm(1, 30, 4, 1);
        due("12 ice too", y.pack(200), 2);
        due("12 1 at least", y.layer(0, 0), 1);
        due("12 dense 230", y.layer(0, 1), 230);
        due("12 grain stays", y.layer(0, 2), 4);
    }

    private static void settle() {
        SnowSlabs x = new SnowSlabs();
        due("13 none", x.settle(1), -3);
        due("13 outside goes before state", x.settle(0), -2);
        due("13 51", x.settle(51), -2);
        x.storm(50, 100, 1, 2);
        x.storm(9, 100, 4, 3);
        x.storm(9, 100, 0, 3);
        x.storm(3, 500, 2, 3);
        due("13 thick of all", x.settle(15), 42 + 9 + 7 + 2);
        due("13 dense 5000 by 42", x.layer(0, 1), 119);
        due("13 ice", x.layer(1, 0), 9);
        due("13 ice's dense", x.layer(1, 1), 100);
        due("13 dense 900 by 7", x.layer(2, 1), 128);
        due("13 600 at most", x.layer(3, 1), 600);
        due("13 hard stays", x.layer(0, 3), 2);
        due("13 half", x.settle(50), 21 + 9 + 3 + 1);
        due("13 1 at least", x.settle(50), 10 + 9 + 1 + 1);
        due("13 as it was", x.layer(3, 0), 1);
        due("13 dense by a THICK of 1", x.layer(2, 1), 600);
        SnowSlabs y = new SnowSlabs();
        y.storm(100, 100, 0, 1);
        due("13 by 1", y.settle(1), 99);
    }

    private static void melt() {
        SnowSlabs x = new SnowSlabs();
        due("14 none", x.melt(1), -3);
        due("14 outside goes before state", x.melt(0), -2);
        due("14 301", x.melt(301), -2);
        x.storm(10, 100, 1, 1);
        x.storm(10, 100, 4, 1);
        x.storm(10, 100, 2, 1);
        x.storm(10, 100, 0, 1);
        due("14 keeps the rest", x.melt(9), 4);
        due("14 rest", x.layer(3, 0), 1);
        due("14 wet", x.layer(3, 4), 1);
        due("14 wet under it", x.layer(2, 4), 1);
        due("14 ice is dry", x.layer(1, 4), 0);
        due("14 dry under ice", x.layer(0, 4), 0);
        due("14 one gone in all", x.melt(1), 3);
        due("14 under it whole", x.layer(2, 0), 10);
        due("14 through one into ice", x.melt(12), 2);
        due("14 ice's rest", x.layer(1, 0), 8);
        due("14 ice stays dry", x.layer(1, 4), 0);
        due("14 ground is dry still", x.layer(0, 4), 0);
        due("14 ice just gone", x.melt(8), 1);
        due("14 ground is wet", x.layer(0, 4), 1);
        due("14 its density stays", x.layer(0, 1), 100);
        due("14 all just gone", x.melt(10), 0);
        x.storm(200, 100, 1, 1);
        x.storm(50, 100, 1, 1);
        due("14 more than there is", x.melt(300), 0);
        due("14 bare", x.count(1), 0);
        x.storm(200, 100, 1, 1);
        x.storm(200, 100, 1, 1);
        due("14 the most", x.melt(300), 1);
        due("14 left", x.count(1), 100);
    }

    private static void freeze() {
        SnowSlabs x = new SnowSlabs();
        due("15 none", x.freeze(), 0);
        x.storm(10, 100, 1, 1);
        x.storm(10, 200, 2, 2);
        due("15 dry", x.freeze(), 0);
        due("15 dry keeps its grain", x.layer(0, 2), 1);
        x.melt(1);
        x.storm(10, 100, 0, 3);
        due("15 two", x.freeze(), 2);
        due("15 ice", x.layer(0, 2), 4);
        due("15 hard", x.layer(1, 3), 5);
        due("15 dry then", x.layer(1, 4), 0);
        due("15 dense stays", x.layer(1, 1), 200);
        due("15 strength", x.layer(1, 5), 400);
        due("15 dry one stays", x.layer(2, 2), 0);
        due("15 its hard too", x.layer(2, 3), 3);
        due("15 again", x.freeze(), 0);
    }

    private static void slide() {
        SnowSlabs x = new SnowSlabs();
        due("16 none", x.slide(), -3);
        x.storm(10, 100, 1, 1);
        x.storm(20, 200, 2, 2);
        due("16 one left", x.slide(), 1);
        due("16 the lower stays", x.layer(0, 0), 10);
        due("16 gone", x.layer(1, 0), -1);
        due("16 bears none", x.layer(0, 7), 0);
        due("16 none left", x.slide(), 0);
        due("16 no more", x.slide(), -3);
    }

    private static void heat() {
        SnowSlabs x = new SnowSlabs();
        due("17 side -1", x.heat(-1, 6, 0), -1);
        due("17 side 8", x.heat(8, 6, 0), -1);
        due("17 unknown goes first", x.heat(8, 24, 2), -1);
        due("17 hour -1", x.heat(0, -1, 0), -2);
        due("17 hour 24", x.heat(0, 24, 0), -2);
        due("17 what -1", x.heat(0, 6, -1), -2);
        due("17 what 2", x.heat(0, 6, 2), -2);
        due("17 hour 0", x.heat(2, 0, 0), 0);
        due("17 hour 23", x.heat(2, 23, 0), 0);
        due("17 before 6", x.heat(2, 5, 0), 0);
        due("17 after 18", x.heat(6, 19, 0), 0);
        due("17 at 6", x.heat(2, 6, 0), 90);
        due("17 south-east at 10", x.heat(3, 10, 0), 75);
        due("17 the shorter way", x.heat(7, 18, 0), 45);
        due("17 the other way round", x.heat(7, 6, 0), 0);
        due("17 east at 11", x.heat(2, 11, 0), 15);
        due("17 east at 12", x.heat(2, 12, 0), 0);
        due("17 added up to 5", x.heat(2, 5, 1), 0);
        due("17 added up to 6", x.heat(2, 6, 1), 90);
        int[] all = {0, 90, 315, 495, 540, 495, 315, 90};
        for (int side = 0; side < 8; side++) {
            due("17 all of " + side, x.heat(side, 23, 1), all[side]);
            due("17 up to 18 of " + side, x.heat(side, 18, 1), all[side]);
        }
    }

    private static void warm() {
        SnowSlabs x = new SnowSlabs();
        due("18 side -1", x.warm(-1, 1), -1);
        due("18 side 8", x.warm(8, 0), -1);
        due("18 t 0", x.warm(1, 0), -2);
        due("18 t 1000", x.warm(1, 1000), -2);
        due("18 never", x.warm(0, 1), -6);
        due("18 t 999", x.warm(4, 999), -6);
        due("18 just", x.warm(4, 540), 17);
        due("18 one more", x.warm(4, 541), -6);
        due("18 at once", x.warm(1, 45), 6);
        due("18 an hour on", x.warm(1, 46), 7);
        due("18 north-west", x.warm(7, 1), 16);
        due("18 south by 1", x.warm(4, 1), 7);
    }

    private static void order() {
        SnowSlabs x = new SnowSlabs();
        due("19 t 0", x.order(0, -1), -2);
        due("19 t 1000", x.order(1000, -1), -2);
        due("19 outside goes before none", x.order(0, -2), -2);
        due("19 below", x.order(1, -2), -6);
        due("19 far below", x.order(1, MIN), -6);
        due("19 far", x.order(1, MAX), -6);
        // By 1: 1, 2, 3 at 6, 4 at 7, 5 at 10, 6 at 13, 7 at 16; 0 never.
        due("19 how many", x.order(1, -1), 7);
        for (int i = 0; i < 7; i++) {
            due("19 by 1, place " + i, x.order(1, i), i + 1);
        }
        due("19 no eighth", x.order(1, 7), -6);
        // By 90: 2 at 6 (90), 3 at 7 (45 and 60), 1 at 8 (45, 30 and 15).
        due("19 by 90, first", x.order(90, 0), 2);
        due("19 by 90, second", x.order(90, 1), 3);
        due("19 by 90, third", x.order(90, 2), 1);
        due("19 by 90, last", x.order(90, 6), 7);
        due("19 by 91 how many", x.order(91, -1), 5);
        due("19 by 540", x.order(540, 0), 4);
        due("19 by 541", x.order(541, -1), 0);
        due("19 by 541, first", x.order(541, 0), -6);
    }

    private static void images() {
        SnowSlabs x = new SnowSlabs();
        due("20 -1", x.image(-1), -2);
        due("20 2", x.image(2), -2);
        due("21 -1", x.restore(-1), -2);
        due("21 2", x.restore(2), -2);
        due("21 nothing kept", x.restore(0), -3);
        due("20 bare ground is kept", x.image(1), 1);
        due("20 set", x.count(4), 2);
        due("21 the other is not", x.restore(0), -3);
        x.storm(10, 100, 1, 2);
        x.melt(1);
        x.storm(20, 200, 2, 3);
        x.firm(3, 77);
        x.blow(33);
        due("20 kept", x.image(0), 1);
        due("20 both", x.count(4), 3);
        x.pack(100);
        x.settle(50);
        x.melt(2);
        x.freeze();
        x.storm(1, 30, 0, 1);
        x.storm(1, 30, 0, 1);
        x.firm(3, 1);
        x.blow(1);
        due("21 restored", x.restore(0), 1);
        int[][] layers = {{9, 100, 1, 2, 1}, {20, 200, 2, 3, 0}};
        for (int what = 0; what < 5; what++) {
            due("21 ground " + what, x.layer(0, what), layers[0][what]);
            due("21 upper " + what, x.layer(1, what), layers[1][what]);
        }
        due("21 layers", x.count(0), 2);
        due("21 firm", x.count(13), 77);
        due("21 blow", x.count(3), 33);
        due("21 images stay", x.count(4), 3);
        // What comes after must not change the image.
        x.slide();
        x.melt(5);
        x.firm(3, 5);
        due("21 again", x.restore(0), 1);
        due("21 again thick", x.layer(0, 0), 9);
        due("21 again firm", x.count(13), 77);
        due("21 bare", x.restore(1), 1);
        due("21 bare ground", x.count(0), 0);
        due("21 firm at first", x.count(13), 3);
        due("21 blow at first", x.count(3), 10);
        due("20 in place of what was kept", x.image(0), 1);
        x.storm(1, 30, 0, 1);
        x.restore(0);
        due("20 it is bare", x.count(0), 0);
    }

    private static void count() {
        SnowSlabs x = new SnowSlabs();
        int[] bad = {-1, 5, 9, 15, MIN, MAX};
        for (int what : bad) {
            due("22 outside " + what, x.count(what), -2);
        }
        x.storm(10, 111, 1, 1);
        x.storm(20, 222, 2, 2);
        due("22 layers", x.count(0), 2);
        due("22 thick", x.count(1), 30);
        due("22 mass", x.count(2), 5550);
        x.blow(7);
        due("22 blow", x.count(3), 7);
        x.image(0);
        due("22 image 0", x.count(4), 1);
        for (int g = 0; g < 5; g++) {
            x.firm(g, 91 + g);
        }
        for (int g = 0; g < 5; g++) {
            due("22 firm " + g, x.count(10 + g), 91 + g);
        }
    }

    private static void refusalsChangeNothing() {
        SnowSlabs x = new SnowSlabs();
        x.storm(10, 111, 1, 1);
        x.storm(0, 111, 1, 1);
        x.firm(0, 100);
        x.firm(5, 9);
        x.blow(51);
        x.pack(201);
        x.settle(51);
        x.melt(301);
        x.image(2);
        x.restore(0);
        due("refused: layers", x.count(0), 1);
        due("refused: mass", x.count(2), 1110);
        due("refused: hard", x.layer(0, 3), 1);
        due("refused: dry", x.layer(0, 4), 0);
        due("refused: firm", x.count(10), 8);
        due("refused: blow", x.count(3), 10);
        due("refused: images", x.count(4), 0);
    }

    /** Ten layers: every row is used up to its end. */
    private static void fullCover() {
        SnowSlabs x = new SnowSlabs();
        for (int n = 0; n < 10; n++) {
            x.storm(10, 100, 3, 1 + n % 2 * 2);
        }
        due("full: breaks", x.taps(-1, 0), 9);
        due("full: last tap", x.taps(8, 0), 9);
        due("full: last layer", x.taps(8, 1), 0);
        due("full: last is clean", x.taps(8, 2), 1);
        due("full: no tenth", x.taps(9, 0), -6);
        due("full: ground's load", x.layer(0, 7), 90);
        due("full: ground's depth", x.layer(0, 6), 90);
        due("full: weakest", x.weakest(100, 0), 0);
        due("full: goes", x.goes(9, 0, 0), -3);
        due("full: kept", x.image(0), 1);
        due("full: settled", x.settle(10), 90);
        due("full: packed", x.pack(11), 4);
        due("full: melts", x.melt(1), 10);
        due("full: freezes", x.freeze(), 10);
        due("full: restored", x.restore(0), 1);
        due("full: mass", x.count(2), 10000);
        due("full: top is dry", x.layer(9, 4), 0);
        due("full: slides", x.slide(), 9);
        due("full: room again", x.storm(1, 30, 0, 1), 9);
        due("full: no more", x.storm(1, 30, 0, 1), -4);
    }
}
