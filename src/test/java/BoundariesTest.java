import java.lang.annotation.Retention;
import java.lang.annotation.RetentionPolicy;
import java.lang.reflect.Method;
import java.nio.file.Files;
import java.nio.file.Path;
import java.util.ArrayList;
import java.util.Arrays;
import java.util.Comparator;
import java.util.List;
import java.util.Map;
import java.util.TreeMap;
import java.util.function.Supplier;
import java.util.function.ToIntFunction;

/** Each sentence of the document that names a boundary case has a test of its own here, under the words it is held to. */
public final class BoundariesTest {
    /** The part of the document, "Promise 7" or a section's heading, and the words there that a test holds the class to. */
    @Retention(RetentionPolicy.RUNTIME)
    private @interface Holds {
        String in();

        String words();
    }

    private static final int MIN = Integer.MIN_VALUE, MAX = Integer.MAX_VALUE;
    // Written out, so that a constant of the class that is wrong is seen.
    private static final int UNKNOWN = -1, OUTSIDE = -2, STATE = -3, FULL = -4, NONE = -6;
    private static final int NEW = 0, ROUND = 1, EDGED = 2, RIME = 3, ICE = 4;
    private static final int THICK = 0, DENSE = 1, GRAIN = 2, HARD = 3, WET = 4, STRENGTH = 5, DEPTH = 6, LOAD = 7;
    private static final int SHEAR = 0, MARGIN = 1;
    private static final int TAP = 0, BROKEN = 1, CLEAN = 2;
    private static final int LAYERS = 0, ALL_THICK = 1, ALL_MASS = 2, BLOW = 3, KEPT = 4, FIRM = 10;

    /** Numbers at and beside every limit that the document tells. */
    private static final int[] EDGES = {MIN, MIN + 1, -2, -1, 0, 1, 2, 3, 4, 5, 6, 7, 8, 9, 10, 14, 15, 23, 24, 29, 30, 31, 50, 51, 99,
        100, 101, 200, 201, 300, 301, 600, 601, 999, 1000, MAX - 1, MAX};

    private static int wrong = 0;
    private static String held = "";

    public static void main(String[] args) throws Exception {
        Map<String, String> document = sections(Path.of("../shared/DOC.md"));
        Map<String, Integer> tests = new TreeMap<>();
        Method[] methods = BoundariesTest.class.getDeclaredMethods();
        Arrays.sort(methods, Comparator.comparing(Method::getName));
        for (Method m : methods) {
            Holds holds = m.getAnnotation(Holds.class);
            if (holds != null) {
                held = holds.in() + ", \"" + holds.words() + "\" (" + m.getName() + ")";
                tests.merge(holds.in(), 1, Integer::sum);
                claim("these words stand there", document.getOrDefault(holds.in(), "").contains(holds.words()));
                m.invoke(null);
            }
        }
        held = "the tests of boundary cases";
        for (String section : document.keySet()) {
            claim("there is one for " + section, tests.containsKey(section) || section.equals("Not promised"));
        }
        int all = tests.values().stream().mapToInt(Integer::intValue).sum();
        System.out.println(wrong == 0 ? "all boundary cases hold, by " + all + " tests" : wrong + " answers are not as due");
        if (wrong != 0) {
            System.exit(1);
        }
    }

    /** The document's parts by their headings, those of promises by number alone; spaces and ends of lines as one space. */
    private static Map<String, String> sections(Path path) throws java.io.IOException {
        Map<String, String> parts = new TreeMap<>();
        for (String part : Files.readString(path).split("(?m)^## ")) {
            String heading = part.lines().findFirst().orElse("");
            if (!heading.startsWith("#")) {
                parts.put(heading.replaceFirst("^(Promise \\d+):.*", "$1"), part.replaceAll("\\s+", " "));
            }
        }
        return parts;
    }

    private static void claim(String what, boolean stands) {
        if (!stands) {
            wrong++;
            System.out.println(held + ": it does not hold that " + what);
        }
    }

    private static void due(String call, int got, int want) {
        if (got != want) {
            wrong++;
            System.out.println(held + ": " + call + " answered " + got + ", due is " + want);
        }
    }

    /** The call answers as due, and an object on which it was made tells all as one on which it was not. */
    private static void refused(Supplier<SnowSlabs> make, String call, ToIntFunction<SnowSlabs> ask, int want) {
        SnowSlabs asked = make.get();
        due(call, ask.applyAsInt(asked), want);
        claim(call + " changed nothing", all(asked).equals(all(make.get())));
    }

    /** All that an object holds, its images too, by some 300 calls at most. */
    private static List<Integer> all(SnowSlabs x) {
        List<Integer> told = new ArrayList<>();
        tell(x, told);
        for (int k = 0; k < 2; k++) {
            told.add(x.restore(k));
            tell(x, told);
        }
        return told;
    }

    private static void tell(SnowSlabs x, List<Integer> told) {
        for (int what = LAYERS; what <= KEPT; what++) {
            told.add(x.count(what));
        }
        for (int grain = NEW; grain <= ICE; grain++) {
            told.add(x.count(FIRM + grain));
        }
        int layers = x.count(LAYERS);
        for (int layer = 0; layer < layers; layer++) {
            for (int what = THICK; what <= LOAD; what++) {
                told.add(x.layer(layer, what));
            }
        }
    }

    private static SnowSlabs bare() {
        return new SnowSlabs();
    }

    private static SnowSlabs layers(int[]... each) {
        SnowSlabs x = new SnowSlabs();
        for (int[] one : each) {
            x.storm(one[0], one[1], one[2], one[3]);
        }
        return x;
    }

    private static int[] snow(int thick, int dense, int grain, int hard) {
        return new int[] {thick, dense, grain, hard};
    }

    private static SnowSlabs alike(int n, int[] one) {
        int[][] each = new int[n][];
        Arrays.fill(each, one);
        return layers(each);
    }

    /** A wet layer, ice, a wet one and a dry one; image 0 kept of another state, image 1 not kept. */
    private static SnowSlabs some() {
        SnowSlabs x = layers(snow(20, 210, ROUND, 2));
        x.melt(3);
        x.firm(EDGED, 17);
        x.image(0);
        x.storm(5, 500, ICE, 4);
        x.storm(9, 90, EDGED, 1);
        x.melt(2);
        x.storm(30, 120, NEW, 1);
        x.blow(23);
        x.firm(RIME, 44);
        return x;
    }

    private static SnowSlabs ten() {
        return alike(10, snow(10, 100, ROUND, 1));
    }

    // ======== What it is, The public face

    @Holds(in = "What it is", words = "An object is used for at most 512 calls after it has been made")
    private static void answersUpToThe512thCall() {
        SnowSlabs days = new SnowSlabs();
        for (int i = 1; i <= 255; i++) {
            due("storm, call " + (2 * i - 1), days.storm(200, 600, ICE, 5), 0);
            due("slide, call " + 2 * i, days.slide(), 0);
        }
        due("storm, call 511", days.storm(7, 70, NEW, 1), 0);
        due("layer, call 512", days.layer(0, THICK), 7);
        SnowSlabs kept = new SnowSlabs();
        for (int i = 1; i <= 511; i++) {
            due("image, call " + i, kept.image(i % 2), 1);
        }
        due("count, call 512", kept.count(KEPT), 3);
        SnowSlabs tapped = alike(10, snow(1, 30, RIME, 1));
        for (int i = 11; i <= 512; i++) {
            due("taps, call " + i, tapped.taps(8, TAP), 9);
        }
    }

    @Holds(in = "The public face", words = "UNKNOWN = -1, OUTSIDE = -2, STATE = -3, FULL = -4, NO = -5, NONE = -6")
    private static void constants() {
        due("UNKNOWN", SnowSlabs.UNKNOWN, -1);
        due("OUTSIDE", SnowSlabs.OUTSIDE, -2);
        due("STATE", SnowSlabs.STATE, -3);
        due("FULL", SnowSlabs.FULL, -4);
        due("NO", SnowSlabs.NO, -5);
        due("NONE", SnowSlabs.NONE, -6);
    }

    // ======== Terms: what is refused, what is told

    @Holds(in = "Terms", words = "Calls that are refused answer the first that fits, in the order in which they are told with the call")
    private static void refusalsInTheirOrder() {
        refused(BoundariesTest::ten, "storm(0, 30, 0, 1) of ten", x -> x.storm(0, 30, 0, 1), OUTSIDE);
        refused(BoundariesTest::ten, "storm(1, 601, 0, 1) of ten", x -> x.storm(1, 601, 0, 1), OUTSIDE);
        refused(BoundariesTest::ten, "storm(1, 30, 5, 1) of ten", x -> x.storm(1, 30, 5, 1), OUTSIDE);
        refused(BoundariesTest::ten, "storm(1, 30, 0, 6) of ten", x -> x.storm(1, 30, 0, 6), OUTSIDE);
        refused(BoundariesTest::some, "firm(5, 0)", x -> x.firm(5, 0), UNKNOWN);
        refused(BoundariesTest::some, "firm(-1, 100)", x -> x.firm(-1, 100), UNKNOWN);
        refused(BoundariesTest::some, "layer(4, 8)", x -> x.layer(4, 8), UNKNOWN);
        refused(BoundariesTest::some, "layer(-1, -1)", x -> x.layer(-1, -1), UNKNOWN);
        refused(BoundariesTest::some, "slope(4, 101, 0)", x -> x.slope(4, 101, 0), UNKNOWN);
        refused(BoundariesTest::some, "slope(-1, 0, 2)", x -> x.slope(-1, 0, 2), UNKNOWN);
        refused(BoundariesTest::some, "goes(4, 101, 0)", x -> x.goes(4, 101, 0), UNKNOWN);
        refused(BoundariesTest::some, "goes(-1, 0, 100)", x -> x.goes(-1, 0, 100), UNKNOWN);
        refused(BoundariesTest::some, "goes(3, 101, 0)", x -> x.goes(3, 101, 0), OUTSIDE);
        refused(BoundariesTest::some, "goes(3, 0, 100)", x -> x.goes(3, 0, 100), OUTSIDE);
        refused(BoundariesTest::bare, "goes(0, 101, 100) of none", x -> x.goes(0, 101, 100), UNKNOWN);
        refused(BoundariesTest::bare, "pack(0) of none", x -> x.pack(0), OUTSIDE);
        refused(BoundariesTest::bare, "pack(201) of none", x -> x.pack(201), OUTSIDE);
        refused(BoundariesTest::bare, "settle(0) of none", x -> x.settle(0), OUTSIDE);
        refused(BoundariesTest::bare, "settle(51) of none", x -> x.settle(51), OUTSIDE);
        refused(BoundariesTest::bare, "melt(0) of none", x -> x.melt(0), OUTSIDE);
        refused(BoundariesTest::bare, "melt(301) of none", x -> x.melt(301), OUTSIDE);
        refused(BoundariesTest::bare, "heat(8, 24, 0)", x -> x.heat(8, 24, 0), UNKNOWN);
        refused(BoundariesTest::bare, "heat(-1, 0, 2)", x -> x.heat(-1, 0, 2), UNKNOWN);
        refused(BoundariesTest::bare, "warm(8, 0)", x -> x.warm(8, 0), UNKNOWN);
        refused(BoundariesTest::bare, "warm(-1, 1000)", x -> x.warm(-1, 1000), UNKNOWN);
        refused(BoundariesTest::bare, "restore(2), nothing kept", x -> x.restore(2), OUTSIDE);
    }

    @Holds(in = "Terms", words = "UNKNOWN -1 (no such LAYER, GRAIN, SIDE)")
    private static void unknownOnes() {
        due("layer just above the top", ten().layer(10, THICK), -1);
        due("layer just under the ground", ten().slope(-1, 0, SHEAR), -1);
        due("layer of the bare ground", bare().goes(0, 0, 0), -1);
        due("grain just above ice", bare().firm(5, 1), -1);
        due("grain just below new", bare().firm(-1, 1), -1);
        due("side just above 7", bare().heat(8, 0, 0), -1);
        due("side just below 0", bare().warm(-1, 1), -1);
        // With storm no refusal but OUTSIDE is told for a grain that is not there.
        due("storm of no grain", bare().storm(1, 30, 5, 1), -2);
    }

    @Holds(in = "Terms", words = "OUTSIDE -2 (another number is not as told)")
    private static void numbersNotAsTold() {
        due("thick", bare().storm(0, 30, NEW, 1), -2);
        due("firm", bare().firm(NEW, 100), -2);
        due("blow", bare().blow(51), -2);
        due("n", bare().need(31), -2);
        due("steep", ten().goes(0, 101, 0), -2);
        due("weight", ten().steep(100, 0), -2);
        due("v", ten().pack(201), -2);
        due("p", ten().settle(51), -2);
        due("m", ten().melt(301), -2);
        due("hour", bare().heat(0, 24, 0), -2);
        due("t", bare().order(1000, 0), -2);
        due("k", bare().image(2), -2);
        due("what", bare().count(15), -2);
        // These are numbers of breaks and sides to be told, and none is out of place.
        due("i of taps", bare().taps(MAX, 0), -6);
        due("i of order", bare().order(1, MAX), -6);
    }

    @Holds(in = "Terms", words = "STATE -3, FULL -4, NO -5 (as told with the call)")
    private static void noOtherRefusalThanTold() {
        List<Supplier<SnowSlabs>> states = List.of(BoundariesTest::bare, BoundariesTest::some, BoundariesTest::ten);
        for (Supplier<SnowSlabs> state : states) {
            for (int a : EDGES) {
                oneNumber(state, a);
                for (int b : EDGES) {
                    twoNumbers(state, a, b);
                    for (int c : EDGES) {
                        answersOf("slope", state.get().slope(a, b, c), UNKNOWN, OUTSIDE);
                        answersOf("goes", state.get().goes(a, b, c), UNKNOWN, OUTSIDE, STATE);
                        answersOf("heat", state.get().heat(a, b, c), UNKNOWN, OUTSIDE);
                        answersOf("storm", state.get().storm(a, b, c, 1), OUTSIDE, FULL);
                        answersOf("storm", state.get().storm(1, a, b, c), OUTSIDE, FULL);
                    }
                }
            }
            answersOf("freeze", state.get().freeze());
            answersOf("slide", state.get().slide(), STATE);
        }
    }

    private static void oneNumber(Supplier<SnowSlabs> state, int a) {
        answersOf("blow", state.get().blow(a), OUTSIDE);
        answersOf("need", state.get().need(a), OUTSIDE, NONE);
        answersOf("pack", state.get().pack(a), OUTSIDE, STATE);
        answersOf("settle", state.get().settle(a), OUTSIDE, STATE);
        answersOf("melt", state.get().melt(a), OUTSIDE, STATE);
        answersOf("image", state.get().image(a), OUTSIDE);
        answersOf("restore", state.get().restore(a), OUTSIDE, STATE);
        answersOf("count", state.get().count(a), OUTSIDE);
    }

    private static void twoNumbers(Supplier<SnowSlabs> state, int a, int b) {
        answersOf("firm", state.get().firm(a, b), UNKNOWN, OUTSIDE);
        answersOf("layer", state.get().layer(a, b), UNKNOWN, OUTSIDE);
        answersOf("weakest", state.get().weakest(a, b), OUTSIDE, NONE);
        answersOf("taps", state.get().taps(a, b), OUTSIDE, NONE);
        answersOf("steep", state.get().steep(a, b), OUTSIDE, NONE);
        answersOf("warm", state.get().warm(a, b), UNKNOWN, OUTSIDE, NONE);
        answersOf("order", state.get().order(a, b), OUTSIDE, NONE);
    }

    /** What is no refusal is never below 0. */
    private static void answersOf(String call, int got, int... told) {
        claim(call + " may answer " + got, got >= 0 || Arrays.stream(told).anyMatch(t -> t == got));
    }

    @Holds(in = "Terms", words = "What refused calls answer; NONE: there is none.")
    private static void constantsAreWhatCallsAnswer() {
        due("UNKNOWN", bare().layer(0, 0), SnowSlabs.UNKNOWN);
        due("OUTSIDE", bare().blow(0), SnowSlabs.OUTSIDE);
        due("STATE", bare().slide(), SnowSlabs.STATE);
        due("FULL", ten().storm(1, 30, NEW, 1), SnowSlabs.FULL);
        due("NONE", bare().weakest(0, 0), SnowSlabs.NONE);
    }

    @Holds(in = "Terms", words = "NONE -6 is answered only where no refusal fits.")
    private static void noneOnlyBehindRefusals() {
        SnowSlabs x = bare();
        due("weakest(101, 0) of none", x.weakest(101, 0), OUTSIDE);
        due("weakest(0, 2) of none", x.weakest(0, 2), OUTSIDE);
        due("taps(0, 3) of none", x.taps(0, 3), OUTSIDE);
        due("taps(-2, -1)", x.taps(-2, -1), OUTSIDE);
        due("need(0) of none", x.need(0), OUTSIDE);
        due("need(31) of none", x.need(31), OUTSIDE);
        due("steep(100, 0) of none", x.steep(100, 0), OUTSIDE);
        due("steep(0, 2) of none", x.steep(0, 2), OUTSIDE);
        due("warm(8, 999), never", x.warm(8, 999), UNKNOWN);
        due("warm(0, 1000), never", x.warm(0, 1000), OUTSIDE);
        due("order(1000, 0), never", x.order(1000, 0), OUTSIDE);
        due("order(0, -2)", x.order(0, -2), OUTSIDE);
    }

    @Holds(in = "Terms", words = "What is refused changes nothing.")
    private static void refusalsChangeNothing() {
        refused(BoundariesTest::some, "storm(201, 30, 0, 1)", x -> x.storm(201, 30, 0, 1), OUTSIDE);
        refused(BoundariesTest::some, "storm(1, 30, 0, 0)", x -> x.storm(1, 30, 0, 0), OUTSIDE);
        refused(BoundariesTest::ten, "storm(1, 30, 0, 1) of ten", x -> x.storm(1, 30, 0, 1), FULL);
        refused(BoundariesTest::some, "firm(5, 50)", x -> x.firm(5, 50), UNKNOWN);
        refused(BoundariesTest::some, "firm(0, 100)", x -> x.firm(0, 100), OUTSIDE);
        refused(BoundariesTest::some, "blow(51)", x -> x.blow(51), OUTSIDE);
        refused(BoundariesTest::some, "pack(201)", x -> x.pack(201), OUTSIDE);
        refused(BoundariesTest::some, "settle(51)", x -> x.settle(51), OUTSIDE);
        refused(BoundariesTest::some, "melt(301)", x -> x.melt(301), OUTSIDE);
        refused(BoundariesTest::bare, "pack(1) of none", x -> x.pack(1), STATE);
        refused(BoundariesTest::bare, "settle(1) of none", x -> x.settle(1), STATE);
        refused(BoundariesTest::bare, "melt(1) of none", x -> x.melt(1), STATE);
        refused(BoundariesTest::bare, "slide() of none", SnowSlabs::slide, STATE);
        refused(BoundariesTest::some, "goes(3, 0, 0)", x -> x.goes(3, 0, 0), STATE);
        refused(BoundariesTest::some, "image(2)", x -> x.image(2), OUTSIDE);
        refused(BoundariesTest::some, "image(-1)", x -> x.image(-1), OUTSIDE);
        refused(BoundariesTest::some, "restore(2)", x -> x.restore(2), OUTSIDE);
        refused(BoundariesTest::some, "restore(1), not kept", x -> x.restore(1), STATE);
    }

    @Holds(in = "Terms", words = "All that is told is as things are when it is asked.")
    private static void toldAsThingsAre() {
        SnowSlabs x = layers(snow(10, 100, ROUND, 1), snow(10, 100, EDGED, 1), snow(10, 100, NEW, 1));
        due("load of 0", x.layer(0, LOAD), 20);
        due("weakest", x.weakest(100, 0), 1);
        due("breaks", x.taps(-1, 0), 2);
        due("need(1)", x.need(1), 1);
        due("steep(0, 0)", x.steep(0, 0), 60);
        x.firm(EDGED, 99);
        due("weakest, edged ones firmer", x.weakest(100, 0), 0);
        due("breaks, edged ones firmer", x.taps(0, BROKEN), 0);
        due("steep(0, 0), edged ones firmer", x.steep(0, 0), 100);
        x.slide();
        due("load of 0 when one slid", x.layer(0, LOAD), 10);
        due("weakest when one slid", x.weakest(100, 1), 200);
        due("steep(0, 0) when one slid", x.steep(0, 0), NONE);
        x.slide();
        due("load of 0 when all slid", x.layer(0, LOAD), 0);
        due("weakest when all slid", x.weakest(100, 0), NONE);
        due("breaks when all slid", x.taps(-1, 0), 0);
    }

    @Holds(in = "Terms", words = "Quotients are cut.")
    private static void quotientsOfStrengthLoadAndDays() {
        due("strength 2.97", layers(snow(1, 99, RIME, 1)).layer(0, STRENGTH), 2);
        due("strength 0.99", layers(snow(1, 33, RIME, 1)).layer(0, STRENGTH), 0);
        due("strength 1.02", layers(snow(1, 34, RIME, 1)).layer(0, STRENGTH), 1);
        due("load 0.99", layers(snow(1, 30, NEW, 1), snow(1, 99, NEW, 1)).layer(0, LOAD), 0);
        due("load 1", layers(snow(1, 30, NEW, 1), snow(1, 100, NEW, 1)).layer(0, LOAD), 1);
        due("load 0.99 and 0.99", layers(snow(1, 30, NEW, 1), snow(1, 99, NEW, 1), snow(1, 99, NEW, 1)).layer(0, LOAD), 1);
        SnowSlabs packed = layers(snow(3, 100, NEW, 1));
        packed.pack(51);
        due("thick 300 by 151", packed.layer(0, THICK), 1);
        SnowSlabs settled = layers(snow(10, 100, NEW, 1));
        due("thick 6.7", settled.settle(33), 6);
        due("dense 1000 by 6", settled.layer(0, DENSE), 166);
    }

    @Holds(in = "Terms", words = "Quotients are cut.")
    private static void quotientsOfQuotients() {
        // A load of 3.99 is 3: by a steepness of 33 a shear of 0.99, not of 1.31.
        SnowSlabs x = layers(snow(1, 99, NEW, 1), snow(1, 399, NEW, 1));
        due("shear 0.99", x.slope(0, 33, SHEAR), 0);
        due("shear 1.02", x.slope(0, 34, SHEAR), 1);
        // A strength of 7.92 is 7: by a shear of 3 a margin of 233, not of 264.
        due("margin 700 by 3", x.slope(0, 100, MARGIN), 233);
        // Shear 0.81 and press 0.99 are 0 and 0, which is less than 1.
        SnowSlabs y = layers(snow(1, 34, RIME, 1), snow(91, 30, NEW, 1));
        due("goes(0, 3, 1)", y.goes(0, 3, 1), 0);
        due("goes(0, 4, 1)", y.goes(0, 4, 1), 1);
        // Load 0.99 and press 9.09 are 0 and 9, which is less than 10 and as much as 9.
        SnowSlabs z = layers(snow(1, 100, ROUND, 1), snow(1, 99, NEW, 1));
        z.blow(1);
        z.firm(ROUND, 10);
        due("tap of the break of 10", z.taps(0, TAP), 11);
        z.firm(ROUND, 9);
        due("tap of the break of 9", z.taps(0, TAP), 1);
    }

    // ======== Terms: 1 layers

    @Holds(in = "Terms", words = "LAYERS, 10 at most (none at first), are numbered from 0 on, from the ground up.")
    private static void layersAndTheirNumbers() {
        SnowSlabs x = bare();
        due("layers at first", x.count(LAYERS), 0);
        due("layer 0 at first", x.layer(0, THICK), UNKNOWN);
        for (int n = 0; n < 10; n++) {
            due("storm " + n, x.storm(11 + n, 30, NEW, 1), n);
        }
        due("an eleventh", x.storm(99, 30, NEW, 1), FULL);
        due("ground", x.layer(0, THICK), 11);
        due("top", x.layer(9, THICK), 20);
        due("layer -1", x.layer(-1, THICK), UNKNOWN);
        due("layer 10", x.layer(10, THICK), UNKNOWN);
        due("ten", x.count(LAYERS), 10);
        x.slide();
        due("a tenth again", x.storm(99, 30, NEW, 1), 9);
    }

    @Holds(in = "Terms", words = "Each is THICK (1 to 200)")
    private static void thickOfALayer() {
        int[] bad = {MIN, -1, 0, 201, MAX};
        for (int thick : bad) {
            refused(BoundariesTest::some, "storm of thick " + thick, x -> x.storm(thick, 100, NEW, 1), OUTSIDE);
        }
        due("thick 1", layers(snow(1, 100, NEW, 1)).layer(0, THICK), 1);
        due("thick 200", layers(snow(200, 100, NEW, 1)).layer(0, THICK), 200);
    }

    @Holds(in = "Terms", words = "DENSE (30 to 600)")
    private static void denseOfALayer() {
        int[] bad = {MIN, -30, 0, 29, 601, MAX};
        for (int dense : bad) {
            refused(BoundariesTest::some, "storm of dense " + dense, x -> x.storm(10, dense, NEW, 1), OUTSIDE);
        }
        due("dense 30", layers(snow(10, 30, NEW, 1)).layer(0, DENSE), 30);
        due("dense 600", layers(snow(10, 600, NEW, 1)).layer(0, DENSE), 600);
    }

    @Holds(in = "Terms", words = "of a GRAIN (0 new, 1 round, 2 edged, 3 rime, 4 ice)")
    private static void grainOfALayer() {
        int[] bad = {MIN, -1, 5, MAX};
        for (int grain : bad) {
            refused(BoundariesTest::some, "storm of grain " + grain, x -> x.storm(10, 100, grain, 1), OUTSIDE);
        }
        for (int grain = NEW; grain <= ICE; grain++) {
            due("grain " + grain, layers(snow(10, 100, grain, 1)).layer(0, GRAIN), grain);
        }
    }

    @Holds(in = "Terms", words = "HARD (1 to 5)")
    private static void hardOfALayer() {
        int[] bad = {MIN, -1, 0, 6, MAX};
        for (int hard : bad) {
            refused(BoundariesTest::some, "storm of hard " + hard, x -> x.storm(10, 100, NEW, hard), OUTSIDE);
        }
        due("hard 1", layers(snow(10, 100, NEW, 1)).layer(0, HARD), 1);
        due("hard 5", layers(snow(10, 100, NEW, 5)).layer(0, HARD), 5);
    }

    @Holds(in = "Terms", words = "WET or dry (dry at first)")
    private static void dryAtFirst() {
        SnowSlabs x = layers(snow(10, 100, NEW, 1), snow(10, 100, NEW, 1));
        due("dry", x.layer(0, WET), 0);
        x.melt(10);
        due("wet", x.layer(0, WET), 1);
        // The number was a wet layer's, or one's that is gone: what comes is dry.
        x.storm(10, 100, NEW, 1);
        due("dry on a wet one", x.layer(1, WET), 0);
        x.melt(1);
        x.slide();
        x.storm(10, 100, NEW, 1);
        due("dry in place of a wet one", x.layer(1, WET), 0);
        due("wet still under it", x.layer(0, WET), 1);
    }

    @Holds(in = "Terms", words = "Each GRAIN is FIRM by 1 to 99 (8, 20, 6, 3, 40 at first).")
    private static void firmOfAGrain() {
        int[] first = {8, 20, 6, 3, 40};
        for (int grain = NEW; grain <= ICE; grain++) {
            int g = grain;
            SnowSlabs x = bare();
            due("firm(" + grain + ", 1)", x.firm(grain, 1), first[grain]);
            due("firm(" + grain + ", 99)", x.firm(grain, 99), 1);
            due("then", x.count(FIRM + grain), 99);
            refused(BoundariesTest::some, "firm(" + grain + ", 0)", y -> y.firm(g, 0), OUTSIDE);
            refused(BoundariesTest::some, "firm(" + grain + ", 100)", y -> y.firm(g, 100), OUTSIDE);
        }
    }

    @Holds(in = "Terms", words = "STRENGTH of a LAYER: FIRM of its GRAIN, times HARD, times DENSE, by 100")
    private static void leastAndMostStrength() {
        SnowSlabs x = layers(snow(1, 30, RIME, 1), snow(200, 600, ICE, 5));
        x.firm(RIME, 1);
        due("the least", x.layer(0, STRENGTH), 0);
        x.firm(ICE, 99);
        due("the most", x.layer(1, STRENGTH), 2970);
    }

    @Holds(in = "Terms", words = "of a WET one half of that")
    private static void strengthOfAWetOne() {
        int[] dense = {34, 55, 600};
        int[] dry = {1, 1, 18};
        int[] half = {0, 0, 9};
        for (int i = 0; i < dense.length; i++) {
            SnowSlabs x = layers(snow(2, dense[i], RIME, 1));
            due("dry of " + dense[i], x.layer(0, STRENGTH), dry[i]);
            x.melt(1);
            due("wet of " + dense[i], x.layer(0, STRENGTH), half[i]);
        }
        SnowSlabs odd = layers(snow(2, 55, ROUND, 1));
        odd.melt(1);
        due("half of 11", odd.layer(0, STRENGTH), 5);
    }

    @Holds(in = "Terms", words = "DEPTH of a LAYER: THICK of all that lie on it, added.")
    private static void leastAndMostDepth() {
        due("of one alone", layers(snow(200, 600, ICE, 5)).layer(0, DEPTH), 0);
        SnowSlabs x = alike(10, snow(200, 600, ICE, 5));
        due("of the top", x.layer(9, DEPTH), 0);
        due("of the one under it", x.layer(8, DEPTH), 200);
        due("of the ground's", x.layer(0, DEPTH), 1800);
    }

    @Holds(in = "Terms", words = "LOAD on it: of all that lie on it THICK times DENSE, these added, that by 100.")
    private static void leastAndMostLoad() {
        due("on one alone", layers(snow(200, 600, ICE, 5)).layer(0, LOAD), 0);
        due("of 30", layers(snow(200, 600, ICE, 5), snow(1, 30, NEW, 1)).layer(0, LOAD), 0);
        SnowSlabs x = alike(10, snow(200, 600, ICE, 5));
        due("on the top", x.layer(9, LOAD), 0);
        due("on the one under it", x.layer(8, LOAD), 1200);
        due("on the ground's", x.layer(0, LOAD), 10800);
    }

    @Holds(in = "Terms", words = "SHEAR on it by a STEEP (0 to 100): LOAD times STEEP, by 100.")
    private static void shearByTheEdgesOfSteep() {
        SnowSlabs x = alike(10, snow(200, 600, ICE, 5));
        due("by 0", x.slope(0, 0, SHEAR), 0);
        due("by 1", x.slope(0, 1, SHEAR), 108);
        due("by 99", x.slope(0, 99, SHEAR), 10692);
        due("by 100", x.slope(0, 100, SHEAR), 10800);
        due("on the top by 100", x.slope(9, 100, SHEAR), 0);
        int[] bad = {MIN, -1, 101, MAX};
        for (int steep : bad) {
            due("slope by " + steep, x.slope(0, steep, SHEAR), OUTSIDE);
            due("weakest by " + steep, x.weakest(steep, 0), OUTSIDE);
            due("goes by " + steep, x.goes(0, steep, 0), OUTSIDE);
        }
    }

    @Holds(in = "Terms", words = "9999, if SHEAR is 0")
    private static void marginWithoutShear() {
        SnowSlabs x = layers(snow(10, 100, ROUND, 1), snow(1, 100, NEW, 1));
        due("by a steepness of 0", x.slope(0, 0, MARGIN), 9999);
        due("by a shear of 0.99", x.slope(0, 99, MARGIN), 9999);
        due("by a shear of 1", x.slope(0, 100, MARGIN), 2000);
        due("of the top", x.slope(1, 100, MARGIN), 9999);
        due("of one alone", layers(snow(10, 100, ROUND, 1)).slope(0, 100, MARGIN), 9999);
        SnowSlabs weak = layers(snow(1, 30, RIME, 1), snow(1, 99, NEW, 1), snow(1, 100, NEW, 1));
        due("of a strength of 0, with a shear", weak.slope(0, 100, MARGIN), 0);
        due("of a strength of 0, without one", weak.slope(0, 99, MARGIN), 9999);
    }

    @Holds(in = "Terms", words = "MARGIN of it by a STEEP: 100 times STRENGTH, by SHEAR")
    private static void marginAsGreatAsItIs() {
        SnowSlabs x = layers(snow(10, 600, ICE, 5), snow(1, 100, NEW, 1));
        x.firm(ICE, 99);
        due("the most", x.slope(0, 100, MARGIN), 297000);
        // Strengths 99 and 100 by a shear of 1: 9999 is no limit.
        SnowSlabs y = layers(snow(10, 100, ROUND, 1), snow(1, 100, NEW, 1));
        y.firm(ROUND, 99);
        due("9900", y.slope(0, 100, MARGIN), 9900);
        SnowSlabs z = layers(snow(10, 102, ROUND, 1), snow(1, 100, NEW, 1));
        z.firm(ROUND, 99);
        due("10000", z.slope(0, 100, MARGIN), 10000);
    }

    @Holds(in = "Terms", words = "PRESS of a weight on it: 100 times the weight, by (its DEPTH and 10, added).")
    private static void pressByDepthAndWeight() {
        // Depth 1: a weight of 1 presses by 9. Strengths 9 and 10; no load.
        due("9 on 9", layers(snow(1, 300, RIME, 1), snow(1, 30, NEW, 1)).goes(0, 0, 1), 1);
        due("9 on 10", layers(snow(1, 125, NEW, 1), snow(1, 30, NEW, 1)).goes(0, 0, 1), 0);
        // Strength 1: depth 90 leaves a press of 1, depth 91 none.
        due("depth 90", layers(snow(1, 34, RIME, 1), snow(90, 30, NEW, 1)).goes(0, 0, 1), 1);
        due("depth 91", layers(snow(1, 34, RIME, 1), snow(91, 30, NEW, 1)).goes(0, 0, 1), 0);
        // The greatest depth and weight: 9900 by 1810 is 5. Strengths 5 and 6.
        SnowSlabs x = alike(10, snow(200, 600, RIME, 1));
        x.firm(RIME, 1);
        due("strength 6", x.layer(0, STRENGTH), 6);
        due("5 on 6", x.goes(0, 0, 99), 0);
        SnowSlabs y = layers(snow(1, 500, RIME, 1));
        y.firm(RIME, 1);
        for (int n = 1; n < 10; n++) {
            y.storm(200, 600, ICE, 5);
        }
        due("strength 5", y.layer(0, STRENGTH), 5);
        due("5 on 5", y.goes(0, 0, 99), 1);
    }

    @Holds(in = "Terms", words = "WEAKEST by a STEEP: of LAYERS on which one lies at least")
    private static void weakestBearsOne() {
        due("of none", bare().weakest(100, 0), NONE);
        SnowSlabs x = layers(snow(1, 30, RIME, 1));
        due("of one alone", x.weakest(100, 0), NONE);
        x.storm(1, 30, RIME, 1);
        due("of two, the lower", x.weakest(100, 0), 0);
        due("of ten by 0, the one under the top", ten().weakest(0, 0), 8);
    }

    @Holds(in = "Terms", words = "that with the least MARGIN, of such that of the greatest number")
    private static void weakestOfLikeOnes() {
        // Strengths 40, 20, 20 and 20; loads 30, 20, 10 and none.
        SnowSlabs x = layers(snow(10, 100, ROUND, 2), snow(10, 100, ROUND, 1), snow(10, 100, ROUND, 1), snow(10, 100, ROUND, 1));
        due("the least in the middle", x.weakest(100, 0), 1);
        due("its margin", x.weakest(100, 1), 100);
        due("all alike by 0", x.weakest(0, 0), 2);
        due("all of 9999", x.weakest(0, 1), 9999);
        // Strengths 40 and 20, loads 20 and 10: 200 and 200.
        SnowSlabs y = layers(snow(10, 100, ROUND, 2), snow(10, 100, ROUND, 1), snow(10, 100, ROUND, 1));
        due("margin of 0", y.slope(0, 100, MARGIN), 200);
        due("margin of 1", y.slope(1, 100, MARGIN), 200);
        due("of both the upper", y.weakest(100, 0), 1);
        // Alike by the cut alone: 20600 by 103 is 200, 20300 by 101 a little more.
        SnowSlabs z = layers(snow(10, 206, ROUND, 5), snow(1, 203, ROUND, 5), snow(101, 100, ROUND, 1));
        due("margin 20600 by 103", z.slope(0, 100, MARGIN), 200);
        due("margin 20300 by 101", z.slope(1, 100, MARGIN), 200);
        due("of both by the cut the upper", z.weakest(100, 0), 1);
        // Strengths of 0: margins of 0 alike.
        SnowSlabs none = alike(4, snow(10, 33, RIME, 1));
        due("margins of 0", none.weakest(100, 0), 2);
        due("margin 0", none.weakest(100, 1), 0);
    }

    // ======== Terms: 2 taps

    /** Ten layers, of which the one under the top breaks first: it bears a load of 1 and, 1 deep, a press of 100 weights by 11. */
    private static SnowSlabs thinOnes(int firm, int hard) {
        SnowSlabs x = alike(10, snow(1, 100, ROUND, hard));
        x.firm(ROUND, firm);
        return x;
    }

    @Holds(in = "Terms", words = "a block of all LAYERS is tapped 30 times, taps being 1 to 30")
    private static void firstAndLastTaps() {
        SnowSlabs x = thinOnes(91, 1);
        due("how many from tap 1 on", x.taps(-1, 0), 9);
        due("first", x.taps(0, TAP), 1);
        due("ninth", x.taps(8, TAP), 9);
        due("no tenth", x.taps(9, TAP), NONE);
        SnowSlabs y = thinOnes(91, 4);
        due("how many from tap 21 on", y.taps(-1, 0), 9);
        due("first from tap 21 on", y.taps(0, TAP), 21);
        due("ninth from tap 21 on", y.taps(8, TAP), 29);
        due("tapped 30 times and no more", thinOnes(73, 5).taps(-1, 0), 0);
    }

    @Holds(in = "Terms", words = "by a weight that is BLOW (1 to 50; 10 at first)")
    private static void leastAndMostBlow() {
        // Depth 1, load 1: weights 10, 1 and 50 make 91, 10 and 455 with it.
        due("10 at first, 91", thinOnes(91, 1).taps(0, TAP), 1);
        due("10 at first, 92", thinOnes(92, 1).taps(0, TAP), 11);
        // Two layers alone: under a blow of 1 the load of more would break those farther down.
        SnowSlabs x = alike(2, snow(1, 100, ROUND, 1));
        x.firm(ROUND, 10);
        due("blow(1)", x.blow(1), 10);
        due("by 1, 10", x.taps(0, TAP), 1);
        x.firm(ROUND, 11);
        due("by 1, 11", x.taps(0, TAP), 11);
        SnowSlabs y = thinOnes(91, 5);
        due("blow(50)", y.blow(50), 10);
        due("by 50, 455", y.taps(0, TAP), 1);
        y.firm(ROUND, 92);
        due("by 50, 460", y.taps(0, TAP), 11);
    }

    @Holds(in = "Terms", words = "in taps 1 to 10, twice that in 11 to 20, four times that in 21 to 30")
    private static void whereTapsGrowHarder() {
        due("91 by 10", thinOnes(91, 1).taps(0, TAP), 1);
        due("92 by 20", thinOnes(92, 1).taps(0, TAP), 11);
        due("182 by 20", thinOnes(91, 2).taps(0, TAP), 11);
        due("183 by 40", thinOnes(61, 3).taps(0, TAP), 21);
        due("364 by 40", thinOnes(91, 4).taps(0, TAP), 21);
        due("365 by none", thinOnes(73, 5).taps(0, TAP), NONE);
        // Tap 10 is as soft as tap 1, tap 20 as tap 11, tap 30 as tap 21.
        SnowSlabs x = thinOnes(61, 3);
        due("need(10)", x.need(10), x.need(1));
        due("need(20)", x.need(20), x.need(11));
        due("need(30)", x.need(30), x.need(21));
        claim("tap 11 needs less than tap 10", x.need(11) < x.need(10));
        claim("tap 21 needs less than tap 20", x.need(21) < x.need(20));
    }

    @Holds(in = "Terms", words = "A LAYER of the block on which one lies at least BREAKS by a tap")
    private static void breaksOnlyUnderOne() {
        SnowSlabs none = bare();
        none.blow(50);
        due("bare ground", none.taps(-1, 0), 0);
        SnowSlabs x = layers(snow(1, 30, RIME, 1));
        x.blow(50);
        due("strength 0, alone", x.layer(0, STRENGTH), 0);
        due("one alone", x.taps(-1, 0), 0);
        x.storm(1, 30, RIME, 1);
        due("two", x.taps(-1, 0), 1);
        due("the lower, and not again when it lies bare", x.taps(0, BROKEN), 0);
    }

    @Holds(in = "Terms", words = "if LOAD on it and PRESS of that weight on it, added, are no less than its STRENGTH")
    private static void noLessBreaks() {
        // Load 20 and, 40 deep, a press of 20 by the first taps.
        SnowSlabs x = layers(snow(10, 100, ROUND, 1), snow(40, 50, NEW, 1));
        x.firm(ROUND, 39);
        due("40 on 39", x.taps(0, TAP), 1);
        x.firm(ROUND, 40);
        due("40 on 40", x.taps(0, TAP), 1);
        x.firm(ROUND, 41);
        due("40 on 41", x.taps(0, TAP), 11);
        x.firm(ROUND, 60);
        due("60 on 60", x.taps(0, TAP), 11);
        x.firm(ROUND, 61);
        due("60 on 61", x.taps(0, TAP), 21);
        due("0 on 0", layers(snow(1, 30, RIME, 1), snow(200, 30, RIME, 1)).taps(0, TAP), 1);
    }

    @Holds(in = "Terms", words = "(DEPTH and LOAD by what lies on it in the block then)")
    private static void depthAndLoadInTheBlock() {
        // On the ground's: strength 240, a load of 1200 at first, of 0 when the upper one is off; the press grows then.
        SnowSlabs x = layers(snow(1, 600, NEW, 5), snow(1, 30, RIME, 1), snow(200, 600, ROUND, 1));
        x.blow(6);
        due("the load is off, 218 are too few", x.taps(-1, 0), 1);
        x.blow(7);
        due("254 are enough", x.taps(1, TAP), 21);
        x.blow(50);
        due("454, one deep", x.taps(1, TAP), 2);
    }

    @Holds(in = "Terms", words = "If any BREAKS by a tap, the one of the greatest number does (just one by a tap)")
    private static void justOneByATap() {
        SnowSlabs x = alike(10, snow(1, 30, RIME, 1));
        for (int i = 0; i < 9; i++) {
            due("layer of break " + i, x.taps(i, BROKEN), 8 - i);
            due("tap of break " + i, x.taps(i, TAP), i + 1);
        }
        // The lower one alone breaks: it is of the greatest number of those that do.
        SnowSlabs y = layers(snow(1, 30, RIME, 1), snow(10, 600, ICE, 5), snow(1, 30, RIME, 1));
        due("how many", y.taps(-1, 0), 1);
        due("the lower", y.taps(0, BROKEN), 0);
    }

    @Holds(in = "Terms", words = "and all that lies on it is taken off the block for the next taps")
    private static void takenOffForTheNextTaps() {
        // The lowest breaks first: two that would break by harder taps are off with it.
        SnowSlabs x = layers(snow(1, 30, RIME, 1), snow(1, 100, ROUND, 5), snow(1, 100, ROUND, 5), snow(1, 100, NEW, 1));
        due("how many", x.taps(-1, 0), 1);
        due("which", x.taps(0, BROKEN), 0);
        due("off the block, not off the ground", x.count(LAYERS), 4);
        SnowSlabs y = layers(snow(1, 100, ROUND, 5), snow(1, 100, ROUND, 5), snow(1, 100, NEW, 1));
        due("without the lowest", y.taps(-1, 0), 2);
        due("the upper, by a harder tap", y.taps(0, TAP), 11);
    }

    @Holds(in = "Terms", words = "CLEAN: a break of a LAYER, if HARD of the one that lay just on it, and its own, differ by 2 or more.")
    private static void cleanFromTwoOn() {
        for (int own = 1; own <= 5; own++) {
            for (int upper = 1; upper <= 5; upper++) {
                SnowSlabs x = layers(snow(1, 30, RIME, own), snow(40, 30, RIME, upper));
                x.blow(50);
                due("clean, " + own + " under " + upper, x.taps(0, CLEAN), Math.abs(own - upper) >= 2 ? 1 : 0);
            }
        }
        // Just on it lies one as hard as it is; the block's top is harder.
        SnowSlabs y = layers(snow(1, 30, RIME, 1), snow(1, 600, ICE, 1), snow(1, 30, RIME, 5));
        due("breaks", y.taps(0, BROKEN), 0);
        due("not clean", y.taps(0, CLEAN), 0);
        SnowSlabs z = layers(snow(1, 30, RIME, 1), snow(1, 600, ICE, 3), snow(1, 30, RIME, 1));
        due("clean", z.taps(0, CLEAN), 1);
    }

    // ======== Terms: 3 slabs, days, sides

    @Holds(in = "Terms", words = "A LAYER on which one lies at least GOES by a STEEP and a weight (0 to 99)")
    private static void leastAndMostWeight() {
        SnowSlabs x = layers(snow(10, 200, ROUND, 5), snow(1, 30, NEW, 1));
        x.firm(ROUND, 90);
        due("900 of press on 900", x.goes(0, 0, 99), 1);
        due("890 on 900", x.goes(0, 0, 98), 0);
        due("weight 0", x.goes(0, 100, 0), 0);
        int[] bad = {MIN, -1, 100, MAX};
        for (int weight : bad) {
            due("goes with " + weight, x.goes(0, 0, weight), OUTSIDE);
            due("steep with " + weight, x.steep(weight, 0), OUTSIDE);
        }
        due("the top", x.goes(1, 100, 99), STATE);
        due("strength 0, no steepness, no weight", layers(snow(1, 30, RIME, 1), snow(1, 30, RIME, 1)).goes(0, 0, 0), 1);
    }

    @Holds(in = "Terms", words = "if SHEAR on it and PRESS of the weight on it, added, are no less than its STRENGTH")
    private static void noLessGoes() {
        // Strength 40, load 40, depth 40.
        SnowSlabs x = layers(snow(10, 100, ROUND, 2), snow(40, 100, NEW, 1));
        due("shear 40", x.goes(0, 100, 0), 1);
        due("shear 39", x.goes(0, 99, 0), 0);
        due("press 40", x.goes(0, 0, 20), 1);
        due("press 38", x.goes(0, 0, 19), 0);
        due("shear 38, press 2", x.goes(0, 95, 1), 1);
        due("shear 37, press 2", x.goes(0, 94, 1), 0);
    }

    @Holds(in = "Terms", words = "STORM: a LAYER comes on top of all.")
    private static void stormOnTop() {
        SnowSlabs x = bare();
        due("on the ground", x.storm(5, 50, NEW, 1), 0);
        due("on one", x.storm(6, 60, ROUND, 2), 1);
        due("of the lower", x.layer(0, THICK), 5);
        due("of the upper", x.layer(1, THICK), 6);
    }

    @Holds(in = "Terms", words = "PACKED by v (1 to 200): the top LAYER: DENSE v more, 600 at most")
    private static void packedDense() {
        int[] bad = {MIN, -1, 0, 201, MAX};
        for (int v : bad) {
            refused(BoundariesTest::some, "pack(" + v + ")", x -> x.pack(v), OUTSIDE);
        }
        int[][] cases = {{100, 1, 101}, {100, 200, 300}, {399, 200, 599}, {400, 200, 600}, {401, 200, 600}, {599, 1, 600},
            {600, 1, 600}, {600, 200, 600}, {30, 1, 31}};
        for (int[] c : cases) {
            SnowSlabs x = layers(snow(10, 300, NEW, 1), snow(10, c[0], NEW, 1));
            x.pack(c[1]);
            due("dense " + c[0] + " packed by " + c[1], x.layer(1, DENSE), c[2]);
            due("the one under it", x.layer(0, DENSE), 300);
        }
    }

    @Holds(in = "Terms", words = "THICK times what DENSE was, by what it is, 1 at least")
    private static void packedThick() {
        // By what DENSE is: 600 at most, not by 700.
        int[][] cases = {{3, 100, 50, 2}, {3, 100, 51, 1}, {2, 100, 100, 1}, {2, 99, 100, 1}, {1, 100, 1, 1}, {1, 30, 200, 1},
            {70, 500, 200, 58}, {200, 600, 200, 200}, {200, 599, 1, 199}, {1, 600, 1, 1}};
        for (int[] c : cases) {
            SnowSlabs x = layers(snow(c[0], c[1], NEW, 1));
            x.pack(c[2]);
            due("thick " + c[0] + ", dense " + c[1] + " packed by " + c[2], x.layer(0, THICK), c[3]);
        }
    }

    @Holds(in = "Terms", words = "HARD 1 more, 5 at most")
    private static void packedHard() {
        SnowSlabs x = layers(snow(200, 30, NEW, 1), snow(200, 30, NEW, 1));
        for (int hard = 2; hard <= 5; hard++) {
            due("pack", x.pack(1), hard);
        }
        due("5 at most", x.pack(1), 5);
        due("told so", x.layer(1, HARD), 5);
        due("the one under it", x.layer(0, HARD), 1);
    }

    @Holds(in = "Terms", words = "SETTLED by p (1 to 50): of each LAYER that is not of ice")
    private static void settledButIce() {
        int[] bad = {MIN, -1, 0, 51, 100, MAX};
        for (int p : bad) {
            refused(BoundariesTest::some, "settle(" + p + ")", x -> x.settle(p), OUTSIDE);
        }
        SnowSlabs x = layers(snow(100, 100, ICE, 1), snow(100, 100, RIME, 1), snow(100, 100, NEW, 1));
        due("by 1", x.settle(1), 100 + 99 + 99);
        due("ice", x.layer(0, THICK), 100);
        due("ice's dense", x.layer(0, DENSE), 100);
        SnowSlabs y = layers(snow(100, 100, ROUND, 1));
        y.melt(20);
        due("a wet one by 50", y.settle(50), 40);
        y.freeze();
        due("ice of a frozen one", y.settle(50), 40);
        due("ice alone", layers(snow(7, 100, ICE, 1)).settle(50), 7);
    }

    @Holds(in = "Terms", words = "THICK times (100 less p), by 100, 1 at least")
    private static void settledThick() {
        int[][] cases = {{1, 1, 1}, {1, 50, 1}, {2, 1, 1}, {2, 50, 1}, {3, 50, 1}, {4, 50, 2}, {100, 1, 99}, {200, 1, 198},
            {200, 50, 100}, {199, 50, 99}};
        for (int[] c : cases) {
            due("thick " + c[0] + " settled by " + c[1], layers(snow(c[0], 30, NEW, 1)).settle(c[1]), c[2]);
        }
    }

    @Holds(in = "Terms", words = "DENSE: what THICK and DENSE, multiplied, were, by what THICK is, 600 at most")
    private static void settledDense() {
        // Thick, dense, p; thick 1 stays 1, and dense with it.
        int[][] cases = {{1, 30, 50, 30}, {1, 600, 50, 600}, {2, 299, 50, 598}, {2, 300, 50, 600}, {2, 301, 50, 600}, {3, 200, 50, 600},
            {3, 199, 50, 597}, {3, 201, 50, 600}, {100, 594, 1, 600}, {100, 593, 1, 598}, {200, 600, 50, 600}, {99, 100, 1, 101}};
        for (int[] c : cases) {
            SnowSlabs x = layers(snow(c[0], c[1], NEW, 1));
            x.settle(c[2]);
            due("thick " + c[0] + ", dense " + c[1] + " settled by " + c[2], x.layer(0, DENSE), c[3]);
        }
    }

    @Holds(in = "Terms", words = "MELTS m (1 to 300): from the top down m of THICK go away")
    private static void leastAndMostMelting() {
        int[] bad = {MIN, -1, 0, 301, MAX};
        for (int m : bad) {
            refused(BoundariesTest::some, "melt(" + m + ")", x -> x.melt(m), OUTSIDE);
        }
        SnowSlabs x = layers(snow(200, 100, NEW, 1), snow(200, 100, NEW, 1));
        due("melt(1)", x.melt(1), 2);
        due("from the top", x.layer(1, THICK), 199);
        due("not from below", x.layer(0, THICK), 200);
        due("melt(300)", x.melt(300), 1);
        due("the rest", x.layer(0, THICK), 99);
    }

    @Holds(in = "Terms", words = "(LAYERS that are gone in all are there no more; one that is not keeps the rest)")
    private static void goneInAllOrInPart() {
        int[][] cases = {{9, 3, 1}, {10, 2, 20}, {11, 2, 19}, {29, 2, 1}, {30, 1, 30}, {31, 1, 29}, {59, 1, 1}};
        for (int[] c : cases) {
            SnowSlabs x = layers(snow(30, 100, ROUND, 1), snow(20, 100, ROUND, 1), snow(10, 100, ROUND, 1));
            due("left of melt(" + c[0] + ")", x.melt(c[0]), c[1]);
            due("top's rest of melt(" + c[0] + ")", x.layer(c[1] - 1, THICK), c[2]);
            due("none above by melt(" + c[0] + ")", x.layer(c[1], THICK), UNKNOWN);
            due("dense stays by melt(" + c[0] + ")", x.layer(c[1] - 1, DENSE), 100);
        }
    }

    @Holds(in = "Terms", words = "if m is more than there is, all goes")
    private static void moreThanThereIs() {
        int[] enough = {60, 61, 300};
        for (int m : enough) {
            SnowSlabs x = layers(snow(30, 100, ROUND, 1), snow(20, 100, ICE, 1), snow(10, 100, ROUND, 1));
            due("melt(" + m + ") of 60", x.melt(m), 0);
            due("thick then", x.count(ALL_THICK), 0);
            due("mass then", x.count(ALL_MASS), 0);
            due("nothing is wet", x.freeze(), 0);
            due("storm on the ground", x.storm(1, 30, NEW, 1), 0);
            due("dry", x.layer(0, WET), 0);
        }
        due("59 of 60", layers(snow(60, 100, ROUND, 1)).melt(59), 1);
    }

    @Holds(in = "Terms", words = "Then the top LAYER, and those under it, from the top down, are WET, up to the first of ice, which is not, or the ground.")
    private static void wetUpToIceOrGround() {
        SnowSlabs ground = ten();
        ground.melt(1);
        for (int n = 0; n < 10; n++) {
            due("to the ground, " + n, ground.layer(n, WET), 1);
        }
        SnowSlabs middle = layers(snow(9, 99, NEW, 1), snow(9, 99, ICE, 1), snow(9, 99, ICE, 1), snow(9, 99, NEW, 1), snow(9, 99, NEW, 1));
        middle.melt(1);
        int[] wet = {0, 0, 0, 1, 1};
        for (int n = 0; n < 5; n++) {
            due("to the ice, " + n, middle.layer(n, WET), wet[n]);
        }
        SnowSlabs iceOnTop = layers(snow(9, 99, NEW, 1), snow(9, 99, ICE, 1));
        due("ice on top keeps", iceOnTop.melt(8), 2);
        due("ice on top", iceOnTop.layer(1, WET), 0);
        due("under ice", iceOnTop.layer(0, WET), 0);
        due("ice just gone", iceOnTop.melt(1), 1);
        due("what was under it", iceOnTop.layer(0, WET), 1);
        SnowSlabs iceOnGround = layers(snow(9, 99, ICE, 1), snow(9, 99, NEW, 1));
        iceOnGround.melt(1);
        due("on ice", iceOnGround.layer(1, WET), 1);
        due("ice on the ground", iceOnGround.layer(0, WET), 0);
        // Wet before the ice came on it, and wet still: nothing has dried it.
        SnowSlabs before = layers(snow(9, 99, NEW, 1));
        before.melt(1);
        before.storm(9, 99, ICE, 1);
        before.melt(1);
        due("wet under ice stays wet", before.layer(0, WET), 1);
    }

    @Holds(in = "Terms", words = "FREEZES: each WET LAYER is of ice, HARD 5, dry.")
    private static void freezesEachWetOne() {
        SnowSlabs x = ten();
        due("all dry", x.freeze(), 0);
        due("no ice of dry ones", x.layer(0, GRAIN), ROUND);
        x.melt(1);
        due("all wet", x.freeze(), 10);
        for (int n = 0; n < 10; n++) {
            due("grain of " + n, x.layer(n, GRAIN), ICE);
            due("hard of " + n, x.layer(n, HARD), 5);
            due("wet of " + n, x.layer(n, WET), 0);
            due("dense of " + n, x.layer(n, DENSE), 100);
        }
        due("none wet any more", x.freeze(), 0);
        x.melt(1);
        due("ice never is", x.freeze(), 0);
        // A wet one under ice and a wet one on it: both, and the dry top is not.
        SnowSlabs y = some();
        due("both", y.freeze(), 2);
        due("under ice", y.layer(0, GRAIN), ICE);
        due("on ice", y.layer(2, GRAIN), ICE);
        due("the ice that was there keeps its hard", y.layer(1, HARD), 4);
        due("the dry top", y.layer(3, GRAIN), NEW);
        due("the dry top's hard", y.layer(3, HARD), 1);
    }

    @Holds(in = "Terms", words = "SIDES to which slopes look: 0 to 7, SIDE s looks to 45 times s.")
    private static void firstAndLastSide() {
        SnowSlabs x = bare();
        int[] bad = {MIN, -1, 8, MAX};
        for (int side : bad) {
            due("heat of " + side, x.heat(side, 12, 0), UNKNOWN);
            due("warm of " + side, x.warm(side, 1), UNKNOWN);
        }
        int[] all = {0, 90, 315, 495, 540, 495, 315, 90};
        for (int side = 0; side < 8; side++) {
            due("heat of all hours of " + side, x.heat(side, 23, 1), all[side]);
        }
    }

    @Holds(in = "Terms", words = "At an hour h of 6 to 18 the sun stands at 15 times h.")
    private static void firstAndLastHourOfSun() {
        SnowSlabs x = bare();
        due("east at 5", x.heat(2, 5, 0), 0);
        due("east at 6", x.heat(2, 6, 0), 90);
        due("west at 18", x.heat(6, 18, 0), 90);
        due("west at 19", x.heat(6, 19, 0), 0);
        due("east up to 5", x.heat(2, 5, 1), 0);
        due("west up to 17", x.heat(6, 17, 1), 225);
        due("west up to 18", x.heat(6, 18, 1), 315);
        due("west up to 19", x.heat(6, 19, 1), 315);
    }

    @Holds(in = "Terms", words = "Both are parts of a round of 360: how far they are apart, the shorter way")
    private static void theShorterWayRound() {
        SnowSlabs x = bare();
        // North-west (315) from the sun at 90 is 135 the shorter way; north (0) from 270 is 90; north-east (45) from 270 is 135.
        due("north-west at 6", x.heat(7, 6, 0), 0);
        due("north at 18", x.heat(0, 18, 0), 0);
        due("north-east at 18", x.heat(1, 18, 0), 0);
        due("north-west at 18", x.heat(7, 18, 0), 45);
        due("north-east at 6", x.heat(1, 6, 0), 45);
        for (int hour = 0; hour < 24; hour++) {
            due("north at " + hour, x.heat(0, hour, 0), 0);
        }
    }

    @Holds(in = "Terms", words = "90 less that, but 0 at least: HEAT of that SIDE in that hour; in other hours it is 0.")
    private static void heatIsNeverBelowNone() {
        SnowSlabs x = bare();
        due("south at 6, 90 apart", x.heat(4, 6, 0), 0);
        due("south at 7, 75 apart", x.heat(4, 7, 0), 15);
        due("south at 12", x.heat(4, 12, 0), 90);
        due("south at 17, 75 apart", x.heat(4, 17, 0), 15);
        due("south at 18, 90 apart", x.heat(4, 18, 0), 0);
        due("west at 6, 180 apart", x.heat(6, 6, 0), 0);
        due("west at 12, 90 apart", x.heat(6, 12, 0), 0);
        due("west up to 12, none below 0", x.heat(6, 12, 1), 0);
        for (int side = 0; side < 8; side++) {
            due("side " + side + " at 0", x.heat(side, 0, 0), 0);
            due("side " + side + " at 5", x.heat(side, 5, 0), 0);
            due("side " + side + " at 19", x.heat(side, 19, 0), 0);
            due("side " + side + " at 23", x.heat(side, 23, 0), 0);
        }
    }

    @Holds(in = "Terms", words = "WARM by t (1 to 999) is a SIDE in the first hour with which HEAT of all hours from 0 on, added, is t or more.")
    private static void warmFromJustEnoughOn() {
        SnowSlabs x = bare();
        int[] bad = {MIN, -1, 0, 1000, MAX};
        for (int t : bad) {
            due("warm by " + t, x.warm(4, t), OUTSIDE);
            due("order by " + t, x.order(t, -1), OUTSIDE);
        }
        due("by 1", x.warm(4, 1), 7);
        due("by 15, just", x.warm(4, 15), 7);
        due("by 16", x.warm(4, 16), 8);
        due("by 45, just", x.warm(4, 45), 8);
        due("by 525, just", x.warm(4, 525), 16);
        due("by 540, just", x.warm(4, 540), 17);
        due("by 541", x.warm(4, 541), NONE);
        due("by 999", x.warm(4, 999), NONE);
    }

    // ======== Promises

    @Holds(in = "Promise 1", words = "The bare ground; no IMAGE is kept.")
    private static void newObject() {
        SnowSlabs x = bare();
        due("layers", x.count(LAYERS), 0);
        due("thick", x.count(ALL_THICK), 0);
        due("mass", x.count(ALL_MASS), 0);
        due("blow", x.count(BLOW), 10);
        due("images", x.count(KEPT), 0);
        due("restore(0)", x.restore(0), STATE);
        due("restore(1)", x.restore(1), STATE);
        due("layer(0, 0)", x.layer(0, THICK), UNKNOWN);
        due("weakest(100, 0)", x.weakest(100, 0), NONE);
        due("taps(-1, 0)", x.taps(-1, 0), 0);
        due("need(30)", x.need(30), NONE);
        due("steep(99, 0)", x.steep(99, 0), NONE);
        due("freeze()", x.freeze(), 0);
        due("slide()", x.slide(), STATE);
        SnowSlabs other = layers(snow(10, 100, NEW, 1));
        other.firm(NEW, 99);
        other.blow(50);
        other.image(0);
        due("another object's layers", bare().count(LAYERS), 0);
        due("another object's firm", bare().count(FIRM), 8);
        due("another object's blow", bare().count(BLOW), 10);
        due("another object's images", bare().count(KEPT), 0);
    }

    @Holds(in = "Promise 2", words = "STORM: a LAYER comes, dry: its number.")
    private static void stormFromFirstToLast() {
        SnowSlabs x = bare();
        due("the first", x.storm(1, 30, NEW, 1), 0);
        for (int n = 1; n < 9; n++) {
            x.storm(1, 30, NEW, 1);
        }
        due("the last", x.storm(200, 600, ICE, 5), 9);
        int[] want = {200, 600, ICE, 5, 0};
        for (int what = THICK; what <= WET; what++) {
            due("of the last " + what, x.layer(9, what), want[what]);
        }
    }

    @Holds(in = "Promise 2", words = "OUTSIDE: all four")
    private static void stormOutside() {
        int[][] bad = {{0, 100, NEW, 1}, {201, 100, NEW, 1}, {10, 29, NEW, 1}, {10, 601, NEW, 1}, {10, 100, -1, 1}, {10, 100, 5, 1},
            {10, 100, NEW, 0}, {10, 100, NEW, 6}, {0, 0, -1, 0}, {MIN, MIN, MIN, MIN}, {MAX, MAX, MAX, MAX}};
        for (int[] b : bad) {
            refused(BoundariesTest::bare, "storm" + Arrays.toString(b), x -> x.storm(b[0], b[1], b[2], b[3]), OUTSIDE);
            refused(BoundariesTest::ten, "storm" + Arrays.toString(b) + " of ten", x -> x.storm(b[0], b[1], b[2], b[3]), OUTSIDE);
        }
    }

    @Holds(in = "Promise 2", words = "FULL: there are 10.")
    private static void stormFull() {
        SnowSlabs x = alike(9, snow(10, 100, ROUND, 1));
        due("of nine", x.storm(10, 100, ROUND, 1), 9);
        due("of ten", x.storm(10, 100, ROUND, 1), FULL);
        due("of ten again", x.storm(10, 100, ROUND, 1), FULL);
        due("ten", x.count(LAYERS), 10);
        x.melt(10);
        due("of nine when one melted", x.storm(10, 100, ROUND, 1), 9);
        x.image(0);
        x.slide();
        due("of nine when one slid", x.storm(10, 100, ROUND, 1), 9);
        x.melt(300);
        x.restore(0);
        due("of ten restored", x.storm(10, 100, ROUND, 1), FULL);
    }

    @Holds(in = "Promise 3", words = "A GRAIN is FIRM by v: by what it was.")
    private static void firmWas() {
        SnowSlabs x = bare();
        due("to the most", x.firm(ICE, 99), 40);
        due("to the least", x.firm(ICE, 1), 99);
        due("to what it is", x.firm(ICE, 1), 1);
        due("the others stay", x.count(FIRM + RIME), 3);
    }

    @Holds(in = "Promise 3", words = "UNKNOWN; OUTSIDE.")
    private static void firmRefused() {
        int[] noGrain = {MIN, -1, 5, MAX};
        for (int grain : noGrain) {
            refused(BoundariesTest::some, "firm(" + grain + ", 50)", x -> x.firm(grain, 50), UNKNOWN);
            refused(BoundariesTest::some, "firm(" + grain + ", 0)", x -> x.firm(grain, 0), UNKNOWN);
        }
        int[] bad = {MIN, -1, 0, 100, MAX};
        for (int v : bad) {
            refused(BoundariesTest::some, "firm(0, " + v + ")", x -> x.firm(NEW, v), OUTSIDE);
            refused(BoundariesTest::some, "firm(4, " + v + ")", x -> x.firm(ICE, v), OUTSIDE);
        }
    }

    @Holds(in = "Promise 4", words = "Of a LAYER: THICK (what = 0), DENSE (1), GRAIN (2), HARD (3)")
    private static void layerOfGroundAndTop() {
        SnowSlabs x = layers(snow(1, 30, NEW, 1), snow(200, 600, ICE, 5));
        int[] least = {1, 30, NEW, 1};
        int[] most = {200, 600, ICE, 5};
        for (int what = THICK; what <= HARD; what++) {
            due("ground's " + what, x.layer(0, what), least[what]);
            due("top's " + what, x.layer(1, what), most[what]);
        }
    }

    @Holds(in = "Promise 4", words = "STRENGTH (5), DEPTH (6), LOAD (7)")
    private static void layerLeastAndMost() {
        SnowSlabs x = layers(snow(1, 30, RIME, 1), snow(200, 600, ICE, 5));
        int[] ground = {0, 200, 1200};
        int[] top = {1200, 0, 0};
        for (int what = STRENGTH; what <= LOAD; what++) {
            due("ground's " + what, x.layer(0, what), ground[what - STRENGTH]);
            due("top's " + what, x.layer(1, what), top[what - STRENGTH]);
        }
    }

    @Holds(in = "Promise 4", words = "whether it is WET (4: 1, 0)")
    private static void layerWetOrDry() {
        SnowSlabs x = layers(snow(10, 100, NEW, 1));
        due("dry", x.layer(0, 4), 0);
        x.melt(1);
        due("wet", x.layer(0, 4), 1);
    }

    @Holds(in = "Promise 4", words = "UNKNOWN; OUTSIDE.")
    private static void layerRefused() {
        SnowSlabs x = some();
        int[] noLayer = {MIN, -1, 4, 10, MAX};
        for (int layer : noLayer) {
            due("layer(" + layer + ", 0)", x.layer(layer, 0), UNKNOWN);
            due("layer(" + layer + ", 8)", x.layer(layer, 8), UNKNOWN);
        }
        int[] bad = {MIN, -1, 8, MAX};
        for (int what : bad) {
            due("layer(0, " + what + ")", x.layer(0, what), OUTSIDE);
            due("layer(3, " + what + ")", x.layer(3, what), OUTSIDE);
        }
        due("layer(3, 0)", x.layer(3, THICK), 30);
        due("layer(3, 7)", x.layer(3, LOAD), 0);
        due("none", bare().layer(0, 0), UNKNOWN);
        due("one that is gone", goneTop().layer(1, 0), UNKNOWN);
        due("ten, of 10", ten().layer(10, 0), UNKNOWN);
        due("ten, of 9", ten().layer(9, THICK), 10);
    }

    private static SnowSlabs goneTop() {
        SnowSlabs x = layers(snow(10, 100, NEW, 1), snow(10, 100, NEW, 1));
        x.slide();
        return x;
    }

    @Holds(in = "Promise 5", words = "Of a LAYER by a STEEP: SHEAR (what = 0), MARGIN (1).")
    private static void slopeOfGroundAndTop() {
        SnowSlabs x = ten();
        due("ground's shear", x.slope(0, 100, 0), 90);
        due("ground's margin", x.slope(0, 100, 1), 22);
        due("top's shear", x.slope(9, 100, 0), 0);
        due("top's margin", x.slope(9, 100, 1), 9999);
        due("shear by 0", x.slope(0, 0, 0), 0);
        due("margin by 0", x.slope(0, 0, 1), 9999);
    }

    @Holds(in = "Promise 5", words = "UNKNOWN; OUTSIDE: both.")
    private static void slopeRefused() {
        SnowSlabs x = some();
        int[] noLayer = {MIN, -1, 4, MAX};
        for (int layer : noLayer) {
            due("slope(" + layer + ", 0, 0)", x.slope(layer, 0, 0), UNKNOWN);
            due("slope(" + layer + ", 101, 2)", x.slope(layer, 101, 2), UNKNOWN);
        }
        int[] badSteep = {MIN, -1, 101, MAX};
        for (int steep : badSteep) {
            due("slope(0, " + steep + ", 0)", x.slope(0, steep, 0), OUTSIDE);
            due("slope(3, " + steep + ", 1)", x.slope(3, steep, 1), OUTSIDE);
        }
        int[] badWhat = {MIN, -1, 2, MAX};
        for (int what : badWhat) {
            due("slope(0, 0, " + what + ")", x.slope(0, 0, what), OUTSIDE);
            due("slope(3, 100, " + what + ")", x.slope(3, 100, what), OUTSIDE);
        }
        due("none", bare().slope(0, 0, 0), UNKNOWN);
    }

    @Holds(in = "Promise 6", words = "WEAKEST by a STEEP: the LAYER (what = 0), its MARGIN (1)")
    private static void weakestByTheEdgesOfSteep() {
        SnowSlabs x = ten();
        due("by 0", x.weakest(0, 0), 8);
        due("by 0, its margin", x.weakest(0, 1), 9999);
        // Loads of 10 to 90 make shears of 0 by 1; by 2 the lower five have shears of 1.
        due("by 1", x.weakest(1, 0), 8);
        due("by 2", x.weakest(2, 0), 4);
        due("by 2, its margin", x.weakest(2, 1), 2000);
        due("by 100", x.weakest(100, 0), 0);
        due("by 100, its margin", x.weakest(100, 1), 22);
    }

    @Holds(in = "Promise 6", words = "NONE: no LAYER has one on it.")
    private static void weakestNone() {
        for (int what = 0; what <= 1; what++) {
            due("of none", bare().weakest(0, what), NONE);
            due("of one", layers(snow(1, 30, RIME, 1)).weakest(100, what), NONE);
            due("of one left", goneTop().weakest(100, what), NONE);
        }
        SnowSlabs two = layers(snow(1, 30, RIME, 1), snow(1, 30, RIME, 1));
        due("of two", two.weakest(100, 0), 0);
        due("of two, the margin", two.weakest(100, 1), 9999);
    }

    @Holds(in = "Promise 6", words = "OUTSIDE: both.")
    private static void weakestOutside() {
        SnowSlabs x = ten();
        int[] badSteep = {MIN, -1, 101, MAX};
        for (int steep : badSteep) {
            due("weakest(" + steep + ", 0)", x.weakest(steep, 0), OUTSIDE);
            due("weakest(" + steep + ", 1)", x.weakest(steep, 1), OUTSIDE);
        }
        int[] badWhat = {MIN, -1, 2, MAX};
        for (int what : badWhat) {
            due("weakest(0, " + what + ")", x.weakest(0, what), OUTSIDE);
        }
        due("weakest(0, 0)", x.weakest(0, 0), 8);
        due("weakest(100, 0)", x.weakest(100, 0), 0);
        due("weakest(100, 1)", x.weakest(100, 1), 22);
    }

    @Holds(in = "Promise 7", words = "BLOW is v: which it was. OUTSIDE.")
    private static void blowEdges() {
        int[] bad = {MIN, -1, 0, 51, MAX};
        for (int v : bad) {
            refused(BoundariesTest::some, "blow(" + v + ")", x -> x.blow(v), OUTSIDE);
        }
        SnowSlabs x = bare();
        due("to the least", x.blow(1), 10);
        due("to the most", x.blow(50), 1);
        due("to what it is", x.blow(50), 50);
    }

    @Holds(in = "Promise 8", words = "how many breaks (i = -1; what is no matter, if it is 0 to 2)")
    private static void tapsHowMany() {
        for (int what = 0; what <= 2; what++) {
            due("of none, what " + what, bare().taps(-1, what), 0);
            due("of one, what " + what, layers(snow(1, 30, RIME, 1)).taps(-1, what), 0);
            due("of ten, what " + what, alike(10, snow(1, 30, RIME, 1)).taps(-1, what), 9);
        }
        due("of ten, what 3", ten().taps(-1, 3), OUTSIDE);
        due("of ten, what -1", ten().taps(-1, -1), OUTSIDE);
    }

    @Holds(in = "Promise 8", words = "of the i-th, from 0 on, the tap (what = 0), the LAYER (1), whether it is CLEAN (2: 1, 0)")
    private static void tapsFirstAndLast() {
        SnowSlabs x = alike(9, snow(1, 30, RIME, 1));
        x.storm(1, 30, RIME, 3);
        due("tap of the first", x.taps(0, 0), 1);
        due("layer of the first", x.taps(0, 1), 8);
        due("the first is clean", x.taps(0, 2), 1);
        due("tap of the last", x.taps(8, 0), 9);
        due("layer of the last", x.taps(8, 1), 0);
        due("the last is not clean", x.taps(8, 2), 0);
    }

    @Holds(in = "Promise 8", words = "NONE: there is none such (i below -1, too).")
    private static void tapsNone() {
        int[] noneSuch = {MIN, -2, 9, 10, MAX};
        for (int what = 0; what <= 2; what++) {
            SnowSlabs x = alike(10, snow(1, 30, RIME, 1));
            for (int i : noneSuch) {
                due("taps(" + i + ", " + what + ")", x.taps(i, what), NONE);
            }
            due("of none", bare().taps(0, what), NONE);
            due("of one", layers(snow(1, 30, RIME, 1)).taps(0, what), NONE);
            // The rows of a longer trial before must not be told.
            x.melt(8);
            due("one break is left, the second", x.taps(1, what), NONE);
        }
    }

    @Holds(in = "Promise 8", words = "OUTSIDE: what.")
    private static void tapsOutside() {
        int[] bad = {MIN, -1, 3, MAX};
        int[] places = {MIN, -2, -1, 0, 8, 9, MAX};
        SnowSlabs x = alike(10, snow(1, 30, RIME, 1));
        for (int what : bad) {
            for (int i : places) {
                due("taps(" + i + ", " + what + ")", x.taps(i, what), OUTSIDE);
            }
        }
    }

    @Holds(in = "Promise 9", words = "The least BLOW, 1 to 50, by which there is any break by taps 1 to n, n 1 to 30")
    private static void needEdges() {
        // Load 1, depth 1; strength 10: 9 and 1 by a weight of 1.
        SnowSlabs x = layers(snow(1, 100, ROUND, 1), snow(1, 100, NEW, 1));
        x.firm(ROUND, 10);
        due("10 by 1", x.need(1), 1);
        x.firm(ROUND, 11);
        due("11 by 1", x.need(1), 2);
        due("11 by 10", x.need(10), 2);
        due("11 by 11", x.need(11), 1);
        // Strengths 455 and 460: 455 is the most by a weight of 50.
        SnowSlabs y = layers(snow(1, 100, ROUND, 5), snow(1, 100, NEW, 1));
        y.firm(ROUND, 91);
        due("455 by 1", y.need(1), 50);
        due("455 by 10", y.need(10), 50);
        y.firm(ROUND, 92);
        due("460 by 10", y.need(10), NONE);
        due("460 by 11", y.need(11), 26);
        due("460 by 20", y.need(20), 26);
        due("460 by 21", y.need(21), 13);
        due("460 by 30", y.need(30), 13);
        y.blow(50);
        due("whatever the blow is", y.need(30), 13);
        due("which stays", y.count(BLOW), 50);
    }

    @Holds(in = "Promise 9", words = "NONE: by none.")
    private static void needNone() {
        due("of none", bare().need(1), NONE);
        due("of none by 30", bare().need(30), NONE);
        due("of one", layers(snow(1, 30, RIME, 1)).need(30), NONE);
        // By the hardest tap, 200 of weight one deep, 1818 of press and 1 of load: strengths 1819 and 1823.
        SnowSlabs x = layers(snow(1, 428, ROUND, 5), snow(1, 100, NEW, 1));
        x.firm(ROUND, 85);
        due("1819 by 20", x.need(20), NONE);
        due("1819 by 21", x.need(21), 50);
        due("1819 by 30", x.need(30), 50);
        SnowSlabs y = layers(snow(1, 429, ROUND, 5), snow(1, 100, NEW, 1));
        y.firm(ROUND, 85);
        due("1823 by 30", y.need(30), NONE);
    }

    @Holds(in = "Promise 9", words = "OUTSIDE.")
    private static void needOutside() {
        int[] bad = {MIN, -1, 0, 31, MAX};
        for (int n : bad) {
            due("need(" + n + ") of none", bare().need(n), OUTSIDE);
            due("need(" + n + ") of ten", ten().need(n), OUTSIDE);
        }
    }

    @Holds(in = "Promise 10", words = "Whether a LAYER GOES by a STEEP and a weight: 1, 0.")
    private static void goesByTheEdges() {
        SnowSlabs x = layers(snow(10, 100, ROUND, 2), snow(40, 100, NEW, 1));
        due("by 0 and 0", x.goes(0, 0, 0), 0);
        due("by 100 and 0", x.goes(0, 100, 0), 1);
        due("by 0 and 99", x.goes(0, 0, 99), 1);
        due("by 100 and 99", x.goes(0, 100, 99), 1);
        due("strength 0, by 0 and 0", alike(2, snow(1, 30, RIME, 1)).goes(0, 0, 0), 1);
    }

    @Holds(in = "Promise 10", words = "UNKNOWN; OUTSIDE: both; STATE: none lies on it.")
    private static void goesRefused() {
        SnowSlabs x = some();
        int[] noLayer = {MIN, -1, 4, MAX};
        for (int layer : noLayer) {
            due("goes(" + layer + ", 0, 0)", x.goes(layer, 0, 0), UNKNOWN);
            due("goes(" + layer + ", 101, 100)", x.goes(layer, 101, 100), UNKNOWN);
        }
        int[] badSteep = {MIN, -1, 101, MAX};
        int[] badWeight = {MIN, -1, 100, MAX};
        for (int layer = 0; layer <= 3; layer++) {
            for (int steep : badSteep) {
                due("goes(" + layer + ", " + steep + ", 0)", x.goes(layer, steep, 0), OUTSIDE);
            }
            for (int weight : badWeight) {
                due("goes(" + layer + ", 0, " + weight + ")", x.goes(layer, 0, weight), OUTSIDE);
            }
        }
        due("the top", x.goes(3, 0, 0), STATE);
        due("the top by the most", x.goes(3, 100, 99), STATE);
        due("one alone", layers(snow(1, 30, RIME, 1)).goes(0, 100, 99), STATE);
        due("one that is the top by now", goneTop().goes(0, 100, 99), STATE);
        due("none", bare().goes(0, 0, 0), UNKNOWN);
        due("the top of ten", ten().goes(9, 0, 0), STATE);
        due("above ten", ten().goes(10, 0, 0), UNKNOWN);
        due("the one under the top of ten", ten().goes(8, 0, 0), 0);
    }

    @Holds(in = "Promise 11", words = "The least STEEP by which any LAYER GOES with a weight (what = 0)")
    private static void steepEdges() {
        // Strength 40, load 40, depth 40.
        SnowSlabs x = layers(snow(10, 100, ROUND, 2), snow(40, 100, NEW, 1));
        due("the most", x.steep(0, 0), 100);
        due("the least", x.steep(20, 0), 0);
        due("a little weight", x.steep(1, 0), 95);
        due("with 99", x.steep(99, 0), 0);
        due("strength 0", alike(2, snow(1, 30, RIME, 1)).steep(0, 0), 0);
    }

    @Holds(in = "Promise 11", words = "which (1; of several that of the greatest number)")
    private static void steepWhich() {
        SnowSlabs x = alike(10, snow(1, 30, RIME, 1));
        due("of all by 0", x.steep(0, 1), 8);
        // Strengths 40 and 20, loads 40 and 20: both by 100.
        SnowSlabs y = layers(snow(10, 100, ROUND, 2), snow(20, 100, ROUND, 1), snow(20, 100, ROUND, 1));
        due("both by 100", y.steep(0, 0), 100);
        due("the upper", y.steep(0, 1), 1);
        // Strength 39 under a load of 40: the lower one goes by 98 already.
        SnowSlabs z = layers(snow(10, 99, ROUND, 2), snow(20, 100, ROUND, 1), snow(20, 100, ROUND, 1));
        due("the lower by less", z.steep(0, 0), 98);
        due("that one", z.steep(0, 1), 0);
    }

    @Holds(in = "Promise 11", words = "NONE: by none.")
    private static void steepNone() {
        for (int what = 0; what <= 1; what++) {
            due("of none", bare().steep(99, what), NONE);
            due("of one", layers(snow(1, 30, RIME, 1)).steep(99, what), NONE);
            // Strength 41 and a load of 40.
            SnowSlabs x = layers(snow(10, 103, ROUND, 2), snow(40, 100, NEW, 1));
            due("41 by 40", x.steep(0, what), NONE);
            due("41 by 40 and a weight of 1", x.steep(1, what), what == 0 ? 98 : 0);
        }
    }

    @Holds(in = "Promise 11", words = "OUTSIDE: both.")
    private static void steepOutside() {
        SnowSlabs x = ten();
        int[] badWeight = {MIN, -1, 100, MAX};
        for (int weight : badWeight) {
            due("steep(" + weight + ", 0)", x.steep(weight, 0), OUTSIDE);
            due("steep(" + weight + ", 1)", x.steep(weight, 1), OUTSIDE);
        }
        int[] badWhat = {MIN, -1, 2, MAX};
        for (int what : badWhat) {
            due("steep(0, " + what + ")", x.steep(0, what), OUTSIDE);
            due("steep(99, " + what + ") of none", bare().steep(99, what), OUTSIDE);
        }
    }

    @Holds(in = "Promise 12", words = "The top LAYER is PACKED by v: its HARD then.")
    private static void packTheTop() {
        SnowSlabs one = layers(snow(10, 100, NEW, 4));
        due("one alone", one.pack(200), 5);
        due("5 already", one.pack(200), 5);
        SnowSlabs x = ten();
        due("of ten", x.pack(1), 2);
        due("the tenth", x.layer(9, DENSE), 101);
        due("not the ninth", x.layer(8, DENSE), 100);
        due("not the ground's", x.layer(0, HARD), 1);
        // Ice is packed as well: only what settles leaves it out.
        SnowSlabs ice = layers(snow(10, 100, ICE, 1));
        due("ice", ice.pack(100), 2);
        due("ice's thick", ice.layer(0, THICK), 5);
        SnowSlabs wet = layers(snow(10, 100, NEW, 1));
        wet.melt(1);
        wet.pack(1);
        due("a wet one stays wet", wet.layer(0, WET), 1);
    }

    @Holds(in = "Promise 12", words = "OUTSIDE; STATE: there are no LAYERS.")
    private static void packRefused() {
        int[] bad = {MIN, -1, 0, 201, MAX};
        for (int v : bad) {
            refused(BoundariesTest::ten, "pack(" + v + ") of ten", x -> x.pack(v), OUTSIDE);
            refused(BoundariesTest::bare, "pack(" + v + ") of none", x -> x.pack(v), OUTSIDE);
        }
        refused(BoundariesTest::bare, "pack(1) of none", x -> x.pack(1), STATE);
        refused(BoundariesTest::bare, "pack(200) of none", x -> x.pack(200), STATE);
        refused(BoundariesTest::allMelted, "pack(1) when all melted", x -> x.pack(1), STATE);
    }

    private static SnowSlabs allMelted() {
        SnowSlabs x = layers(snow(10, 100, NEW, 1));
        x.melt(300);
        return x;
    }

    @Holds(in = "Promise 13", words = "All is SETTLED by p: THICK of all LAYERS, added, then.")
    private static void settleAll() {
        due("one alone", layers(snow(200, 30, NEW, 1)).settle(50), 100);
        due("ten", alike(10, snow(200, 600, NEW, 1)).settle(1), 1980);
        due("ten of ice", alike(10, snow(200, 600, ICE, 1)).settle(50), 2000);
        due("ten of 1", alike(10, snow(1, 30, NEW, 1)).settle(50), 10);
        SnowSlabs x = ten();
        x.settle(50);
        due("ground's", x.layer(0, THICK), 5);
        due("top's", x.layer(9, DENSE), 200);
    }

    @Holds(in = "Promise 13", words = "OUTSIDE; STATE: there are no LAYERS.")
    private static void settleRefused() {
        int[] bad = {MIN, -1, 0, 51, MAX};
        for (int p : bad) {
            refused(BoundariesTest::ten, "settle(" + p + ") of ten", x -> x.settle(p), OUTSIDE);
            refused(BoundariesTest::bare, "settle(" + p + ") of none", x -> x.settle(p), OUTSIDE);
        }
        refused(BoundariesTest::bare, "settle(1) of none", x -> x.settle(1), STATE);
        refused(BoundariesTest::bare, "settle(50) of none", x -> x.settle(50), STATE);
        refused(BoundariesTest::allMelted, "settle(1) when all melted", x -> x.settle(1), STATE);
    }

    @Holds(in = "Promise 14", words = "It MELTS m: how many LAYERS are left.")
    private static void meltLeaves() {
        due("all but 1 of one", layers(snow(10, 100, NEW, 1)).melt(9), 1);
        due("just one", layers(snow(10, 100, NEW, 1)).melt(10), 0);
        due("more than one", layers(snow(10, 100, NEW, 1)).melt(11), 0);
        due("1 of ten", ten().melt(1), 10);
        due("9 of ten", ten().melt(9), 10);
        due("10 of ten", ten().melt(10), 9);
        due("99 of ten", ten().melt(99), 1);
        due("100 of ten", ten().melt(100), 0);
        due("300 of ten", ten().melt(300), 0);
        due("300 of 2000", alike(10, snow(200, 100, NEW, 1)).melt(300), 9);
    }

    @Holds(in = "Promise 14", words = "OUTSIDE; STATE: there are no LAYERS.")
    private static void meltRefused() {
        int[] bad = {MIN, -1, 0, 301, MAX};
        for (int m : bad) {
            refused(BoundariesTest::ten, "melt(" + m + ") of ten", x -> x.melt(m), OUTSIDE);
            refused(BoundariesTest::bare, "melt(" + m + ") of none", x -> x.melt(m), OUTSIDE);
        }
        refused(BoundariesTest::bare, "melt(1) of none", x -> x.melt(1), STATE);
        refused(BoundariesTest::bare, "melt(300) of none", x -> x.melt(300), STATE);
        refused(BoundariesTest::allMelted, "melt(1) when all melted", x -> x.melt(1), STATE);
    }

    @Holds(in = "Promise 15", words = "It FREEZES: how many LAYERS were WET.")
    private static void freezeNoneAndAll() {
        due("of none", bare().freeze(), 0);
        due("of dry ones", ten().freeze(), 0);
        SnowSlabs x = ten();
        x.melt(1);
        due("of ten wet ones", x.freeze(), 10);
        due("again", x.freeze(), 0);
        // A wet one that has gone, by melting or by sliding, is counted no more.
        SnowSlabs gone = ten();
        gone.melt(10);
        due("of nine that are left", gone.freeze(), 9);
        SnowSlabs slid = ten();
        slid.melt(1);
        slid.slide();
        due("of nine when one slid", slid.freeze(), 9);
        due("when all melted", allMelted().freeze(), 0);
    }

    @Holds(in = "Promise 16", words = "The top LAYER slides off: how many LAYERS are left.")
    private static void slideToTheLast() {
        SnowSlabs x = ten();
        for (int left = 9; left >= 0; left--) {
            due("slide to " + left, x.slide(), left);
            due("count of " + left, x.count(LAYERS), left);
        }
    }

    @Holds(in = "Promise 16", words = "STATE: there are none.")
    private static void slideRefused() {
        refused(BoundariesTest::bare, "slide() of none", SnowSlabs::slide, STATE);
        refused(BoundariesTest::allMelted, "slide() when all melted", SnowSlabs::slide, STATE);
        SnowSlabs x = layers(snow(10, 100, NEW, 1));
        due("the last", x.slide(), 0);
        due("no more", x.slide(), STATE);
        due("storm then", x.storm(10, 100, NEW, 1), 0);
    }

    @Holds(in = "Promise 17", words = "HEAT of a SIDE in an hour, 0 to 23 (what = 0), of all hours from 0 up to that one, added (1).")
    private static void heatFirstAndLastHour() {
        SnowSlabs x = bare();
        int[] all = {0, 90, 315, 495, 540, 495, 315, 90};
        for (int side = 0; side < 8; side++) {
            due("side " + side + " in 0", x.heat(side, 0, 0), 0);
            due("side " + side + " in 23", x.heat(side, 23, 0), 0);
            due("side " + side + " up to 0", x.heat(side, 0, 1), 0);
            due("side " + side + " up to 23", x.heat(side, 23, 1), all[side]);
        }
        due("with that hour's", x.heat(4, 12, 1), 315);
    }

    @Holds(in = "Promise 17", words = "UNKNOWN; OUTSIDE: both.")
    private static void heatRefused() {
        SnowSlabs x = bare();
        int[] noSide = {MIN, -1, 8, MAX};
        for (int side : noSide) {
            due("heat(" + side + ", 0, 0)", x.heat(side, 0, 0), UNKNOWN);
            due("heat(" + side + ", 24, 2)", x.heat(side, 24, 2), UNKNOWN);
        }
        int[] badHour = {MIN, -1, 24, MAX};
        for (int hour : badHour) {
            due("heat(0, " + hour + ", 0)", x.heat(0, hour, 0), OUTSIDE);
            due("heat(7, " + hour + ", 1)", x.heat(7, hour, 1), OUTSIDE);
        }
        int[] badWhat = {MIN, -1, 2, MAX};
        for (int what : badWhat) {
            due("heat(0, 0, " + what + ")", x.heat(0, 0, what), OUTSIDE);
            due("heat(7, 23, " + what + ")", x.heat(7, 23, what), OUTSIDE);
        }
    }

    @Holds(in = "Promise 18", words = "The hour in which a SIDE is WARM by t")
    private static void warmFirstAndLastHours() {
        SnowSlabs x = bare();
        int[] first = {6, 6, 6, 7, 10, 13, 16};
        for (int side = 1; side < 8; side++) {
            due("side " + side + " by 1", x.warm(side, 1), first[side - 1]);
        }
        due("east by 90, the sun's first hour", x.warm(2, 90), 6);
        due("east by 91", x.warm(2, 91), 7);
        due("west by 225", x.warm(6, 225), 17);
        due("west by 226, the sun's last hour", x.warm(6, 226), 18);
    }

    @Holds(in = "Promise 18", words = "NONE: it never is.")
    private static void warmNever() {
        SnowSlabs x = bare();
        int[] all = {0, 90, 315, 495, 540, 495, 315, 90};
        int[] hours = {NONE, 8, 11, 14, 17, 18, 18, 18};
        due("north by 1", x.warm(0, 1), NONE);
        for (int side = 1; side < 8; side++) {
            due("side " + side + " by all it gets", x.warm(side, all[side]), hours[side]);
            due("side " + side + " by one more", x.warm(side, all[side] + 1), NONE);
            due("side " + side + " by 999", x.warm(side, 999), NONE);
        }
    }

    @Holds(in = "Promise 18", words = "UNKNOWN; OUTSIDE.")
    private static void warmRefused() {
        SnowSlabs x = bare();
        int[] noSide = {MIN, -1, 8, MAX};
        for (int side : noSide) {
            due("warm(" + side + ", 1)", x.warm(side, 1), UNKNOWN);
            due("warm(" + side + ", 0)", x.warm(side, 0), UNKNOWN);
        }
        int[] bad = {MIN, -1, 0, 1000, MAX};
        for (int t : bad) {
            due("warm(0, " + t + ")", x.warm(0, t), OUTSIDE);
            due("warm(7, " + t + ")", x.warm(7, t), OUTSIDE);
        }
    }

    @Holds(in = "Promise 19", words = "SIDES that are ever WARM by t, by their hours, of like ones by numbers: how many (i = -1), the i-th, from 0 on")
    private static void orderFirstToLast() {
        SnowSlabs x = bare();
        // By 46: 2 at 6; 1 and 3 at 7; 4 at 9, 5 at 12, 6 at 15, 7 at 18.
        int[][] orders = {{1, 1, 2, 3, 4, 5, 6, 7}, {45, 1, 2, 3, 4, 5, 6, 7}, {46, 2, 1, 3, 4, 5, 6, 7}, {90, 2, 3, 1, 4, 5, 6, 7},
            {91, 2, 3, 4, 5, 6}, {315, 3, 2, 4, 5, 6}, {316, 3, 4, 5}, {495, 3, 4, 5}, {496, 4}, {540, 4}, {541}, {999}};
        for (int[] o : orders) {
            due("how many by " + o[0], x.order(o[0], -1), o.length - 1);
            for (int i = 0; i < o.length - 1; i++) {
                due("by " + o[0] + " place " + i, x.order(o[0], i), o[i + 1]);
            }
            due("by " + o[0] + " none behind the last", x.order(o[0], o.length - 1), NONE);
        }
    }

    @Holds(in = "Promise 19", words = "NONE (i below -1, too).")
    private static void orderNone() {
        SnowSlabs x = bare();
        int[] noneSuch = {MIN, -2, 7, 8, MAX};
        for (int i : noneSuch) {
            due("order(1, " + i + ")", x.order(1, i), NONE);
        }
        due("order(541, 0)", x.order(541, 0), NONE);
        due("order(999, -2)", x.order(999, -2), NONE);
        due("order(999, -1)", x.order(999, -1), 0);
    }

    @Holds(in = "Promise 19", words = "OUTSIDE: t.")
    private static void orderOutside() {
        SnowSlabs x = bare();
        int[] bad = {MIN, -1, 0, 1000, MAX};
        int[] places = {MIN, -2, -1, 0, 7, MAX};
        for (int t : bad) {
            for (int i : places) {
                due("order(" + t + ", " + i + ")", x.order(t, i), OUTSIDE);
            }
        }
    }

    @Holds(in = "Promise 20", words = "All but IMAGES is kept in an IMAGE (0, 1)")
    private static void imageOfEmptyAndFull() {
        SnowSlabs x = bare();
        due("of the bare ground", x.image(0), 1);
        for (int n = 0; n < 10; n++) {
            x.storm(10 + n, 100 + n, n % 5, 1 + n % 5);
        }
        due("of ten", x.image(1), 1);
        x.restore(0);
        due("bare", x.count(LAYERS), 0);
        due("images are no part of it", x.count(KEPT), 3);
        // Ten others lie where the kept ones lay, so that nothing of these is there by chance.
        for (int n = 0; n < 10; n++) {
            x.storm(200, 600, (n + 1) % 5, 1 + (n + 1) % 5);
        }
        x.melt(1);
        x.restore(1);
        due("ten", x.count(LAYERS), 10);
        for (int n = 0; n < 10; n++) {
            due("thick of " + n, x.layer(n, THICK), 10 + n);
            due("dense of " + n, x.layer(n, DENSE), 100 + n);
            due("grain of " + n, x.layer(n, GRAIN), n % 5);
            due("hard of " + n, x.layer(n, HARD), 1 + n % 5);
            due("wet of " + n, x.layer(n, WET), 0);
        }
    }

    @Holds(in = "Promise 20", words = "in place of what was kept there: 1.")
    private static void imageInPlaceOfAnother() {
        SnowSlabs x = ten();
        due("first", x.image(0), 1);
        due("the other", x.image(1), 1);
        x.melt(300);
        due("bare in place of ten", x.image(0), 1);
        due("set", x.count(KEPT), 3);
        x.storm(5, 50, NEW, 1);
        x.restore(0);
        due("bare", x.count(LAYERS), 0);
        x.restore(1);
        due("the other stays", x.count(LAYERS), 10);
        due("image(0) of what it has", x.image(0), 1);
        due("and again", x.image(0), 1);
    }

    @Holds(in = "Promise 20", words = "OUTSIDE.")
    private static void imageOutside() {
        int[] bad = {MIN, -1, 2, MAX};
        for (int k : bad) {
            refused(BoundariesTest::some, "image(" + k + ")", x -> x.image(k), OUTSIDE);
            refused(BoundariesTest::bare, "image(" + k + ") of none", x -> x.image(k), OUTSIDE);
        }
    }

    @Holds(in = "Promise 21", words = "All but IMAGES is as it was when it was kept; the IMAGE stays: 1.")
    private static void restoreAndTheImageStays() {
        SnowSlabs x = some();
        due("first", x.restore(0), 1);
        due("one layer", x.count(LAYERS), 1);
        due("wet", x.layer(0, WET), 1);
        due("thick", x.layer(0, THICK), 17);
        due("edged as kept", x.count(FIRM + EDGED), 17);
        due("rime as kept", x.count(FIRM + RIME), 3);
        due("blow as kept", x.count(BLOW), 10);
        due("kept still", x.count(KEPT), 1);
        x.melt(300);
        x.storm(200, 600, ICE, 5);
        x.firm(EDGED, 1);
        x.blow(50);
        due("again", x.restore(0), 1);
        due("thick again", x.layer(0, THICK), 17);
        due("dense again", x.layer(0, DENSE), 210);
        due("grain again", x.layer(0, GRAIN), ROUND);
        due("hard again", x.layer(0, HARD), 2);
        due("wet again", x.layer(0, WET), 1);
        due("firm again", x.count(FIRM + EDGED), 17);
        due("blow again", x.count(BLOW), 10);
        // An image that is kept later than the one that is restored stays as well.
        SnowSlabs y = bare();
        y.image(0);
        y.storm(10, 100, NEW, 1);
        y.image(1);
        y.restore(0);
        due("both kept", y.count(KEPT), 3);
        due("the later one", y.restore(1), 1);
        due("its layer", y.count(LAYERS), 1);
    }

    @Holds(in = "Promise 21", words = "OUTSIDE; STATE: nothing was kept in it.")
    private static void restoreRefused() {
        int[] bad = {MIN, -1, 2, MAX};
        for (int k : bad) {
            refused(BoundariesTest::some, "restore(" + k + ")", x -> x.restore(k), OUTSIDE);
            refused(BoundariesTest::bare, "restore(" + k + ") of a new one", x -> x.restore(k), OUTSIDE);
        }
        refused(BoundariesTest::bare, "restore(0) of a new one", x -> x.restore(0), STATE);
        refused(BoundariesTest::bare, "restore(1) of a new one", x -> x.restore(1), STATE);
        refused(BoundariesTest::some, "restore(1), the other is kept", x -> x.restore(1), STATE);
        SnowSlabs x = bare();
        x.image(1);
        due("restore(0), the other is kept", x.restore(0), STATE);
        due("restore(1) of the bare ground", x.restore(1), 1);
    }

    @Holds(in = "Promise 22", words = "LAYERS (0), THICK of all, added (1), THICK times DENSE of all, added (2), BLOW (3)")
    private static void countNoneAndMost() {
        int[] none = {0, 0, 0, 10};
        int[] most = {10, 2000, 1200000, 50};
        SnowSlabs x = alike(10, snow(200, 600, NEW, 1));
        x.blow(50);
        for (int what = LAYERS; what <= BLOW; what++) {
            due("of none " + what, bare().count(what), none[what]);
            due("of the most " + what, x.count(what), most[what]);
        }
        due("mass is not cut", layers(snow(1, 99, NEW, 1)).count(ALL_MASS), 99);
    }

    @Holds(in = "Promise 22", words = "which IMAGES are kept, a set: bits 0, 1 of the value 1 shifted left by them (4)")
    private static void countTheKept() {
        SnowSlabs x = bare();
        due("none", x.count(KEPT), 0);
        x.image(1);
        due("1", x.count(KEPT), 2);
        x.image(0);
        due("both", x.count(KEPT), 3);
        SnowSlabs y = bare();
        y.image(0);
        due("0", y.count(KEPT), 1);
    }

    @Holds(in = "Promise 22", words = "FIRM of GRAIN what less 10 (10 to 14). OUTSIDE.")
    private static void countFirmAndOutside() {
        SnowSlabs x = bare();
        int[] bad = {MIN, -1, 5, 6, 7, 8, 9, 15, MAX};
        for (int what : bad) {
            due("count(" + what + ")", x.count(what), OUTSIDE);
        }
        x.firm(NEW, 99);
        x.firm(ICE, 1);
        int[] firm = {99, 20, 6, 3, 1};
        for (int grain = NEW; grain <= ICE; grain++) {
            due("count(" + (10 + grain) + ")", x.count(10 + grain), firm[grain]);
        }
    }
}
