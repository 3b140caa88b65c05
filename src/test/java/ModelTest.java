import java.util.Arrays;
import java.util.Random;

/** Long runs of drawn calls, the same ones on a hall and on the model; each answer has to be the same. */
public final class ModelTest {
    private static final int RUNS = 3000;
    private static final int MOST_CALLS = 512;
    /** What is asked at the end, and a round of signatures before it, still have to find room in a run. */
    private static final int DRAWN_CALLS = 300;
    private static final int[] EDGES = {Integer.MIN_VALUE, Integer.MAX_VALUE, -1, -2, 0, 1, 3, 4, 5, 6, 7, 10, 12, 20,
        1000000, 65536, 201, 1001, 5001};

    /** The calls that are drawn, by the kind of run: any, advertisements, stories, editions, corrections, the rest. */
    private static final String[] KINDS = {
        String.join(" ", Calls.NAMES),
        "page page cell distance advert advert place place place takeOff takeOff advertsIn touched SIGNALL close",
        "page page story story lay lay lift change change change part part touched SIGNALL close cell advert place",
        "page story lay lay change lift SIGNALL SIGNALL SIGNALL close printed printed correct correct placeCorrection"
            + " placeCorrection clean person sign sign hold hold isReady isReady pass truck late late touched cell",
        "page lay lay lay change lift SIGNALL SIGNALL SIGNALL close printed correct correct correct placeCorrection"
            + " placeCorrection placeCorrection clean clean sign isReady pass truck late late late touched cell advert"
            + " place",
        "word word word fit fit fit fit dropWords weigh weigh crop crop crop wire wire wire take numbers solutions",
    };

    private final Random random;
    private final PressHall hall = new PressHall();
    private final Model model = new Model();
    private final StringBuilder told = new StringBuilder();
    private int made;

    private ModelTest(long seed) {
        random = new Random(seed);
    }

    private int below(int bound) {
        return random.nextInt(bound);
    }

    private int anyOf(int... values) {
        return values[below(values.length)];
    }

    /** A number of something that there is, or now and then the next one. */
    private int one(int count) {
        return below(Math.max(1, count) + below(10) / 9);
    }

    private int weights() {
        int digits = 0;
        int kinds = 1 + below(10);
        for (int i = 0; i < 6; i++) {
            digits = 10 * digits + below(kinds);
        }
        return digits;
    }

    private int lines() {
        int digits = 0;
        int count = 1 + below(6);
        int least = 1 + below(9);
        for (int i = 0; i < count; i++) {
            digits = 10 * digits + least + below(10 - least);
        }
        return digits;
    }

    private int wireWords() {
        int set = 0;
        int most = 1 + below(16);
        for (int i = 0; i < 2 + below(6); i++) {
            set |= 1 << below(most);
        }
        return set;
    }

    private int puzzleRow() {
        int digits = 0;
        for (int i = 0; i < 4; i++) {
            digits = 10 * digits + Math.max(0, below(8) - 3);
        }
        return digits;
    }

    /** Arguments that mostly are in range. */
    private int[] argumentsOf(String name) {
        switch (name) {
            case "page": return new int[] {below(10), below(3) / 2 * below(4), below(2)};
            case "cell": return new int[] {below(10), below(12)};
            case "distance": return new int[] {below(4), below(10) * below(2)};
            case "advert":
                return new int[] {below(4), 1 + below(3), 1 + below(4), below(2) * below(2),
                    anyOf(-1, -1, -1, 0, 1, 2, 3), anyOf(-1, -1, -1, 0, 1, 2)};
            case "place":
            case "takeOff": return new int[] {one(model.advertCount())};
            case "advertsIn": return new int[] {below(3)};
            case "story": return new int[] {below(2) * below(4), lines(), 1 + below(6) * below(2)};
            case "lay":
            case "lift": return new int[] {one(model.storyCount())};
            case "change": return new int[] {one(model.storyCount()), one(model.storyCount())};
            case "part": return new int[] {one(model.storyCount()), below(2)};
            case "person": return new int[] {below(6)};
            case "sign":
            case "hold": return new int[] {below(10), below(6)};
            case "isReady":
            case "clean": return new int[] {below(10)};
            case "printed": return new int[] {one(model.editionCount()), below(10), below(12)};
            case "correct": return new int[] {one(model.editionCount()), one(model.storyCount())};
            case "pass": return new int[] {1 + below(100)};
            case "truck": return new int[] {below(2) * below(1001), 1 + below(anyOf(50, 500, 5000))};
            case "late": return new int[] {one(model.editionCount()), one(model.truckCount())};
            case "word":
                int width = 1 + below(20);
                return new int[] {width, 1 + below(width)};
            case "fit": return new int[] {below(anyOf(30, 110, 201))};
            case "weigh": return new int[] {below(6), weights()};
            case "crop": return new int[] {1 + below(6), 1 + below(6)};
            case "wire": return new int[] {wireWords(), below(10)};
            case "numbers": return new int[] {below(4), anyOf(0, puzzleRow(), puzzleRow())};
            default: return new int[0];
        }
    }

    private boolean makesTheSame(String name, int[] arguments) {
        int call = Arrays.asList(Calls.NAMES).indexOf(name);
        int[] six = Arrays.copyOf(arguments, 6);
        String due = Checks.answerOf(() -> Calls.make(model, call, six));
        String got = Checks.answerOf(() -> Calls.make(hall, call, six));
        told.append(name).append(Arrays.toString(arguments)).append(" -> ").append(got).append('\n');
        made++;
        if (!due.equals(got)) {
            System.out.println(told + "due is " + due);
        }
        return due.equals(got);
    }

    /** Gets the pages that are not ready signed by two people, so that an edition has a chance. */
    private boolean signAll() {
        for (int page = 0; page < 10; page++) {
            for (int person = 0; person < 2 && !model.isReady(page); person++) {
                if (!makesTheSame("sign", new int[] {page, person})) {
                    return false;
                }
            }
        }
        return makesTheSame("close", new int[0]);
    }

    private boolean draw(String[] names) {
        String name = names[below(names.length)];
        if (name.equals("SIGNALL")) {
            return below(5) > 0 || signAll();
        }
        if (name.equals("close") && below(4) > 0) {
            return true;
        }
        int[] arguments = argumentsOf(name);
        if (arguments.length > 0 && below(25) == 0) {
            arguments[below(arguments.length)] = EDGES[below(EDGES.length)];
        }
        return makesTheSame(name, arguments);
    }

    /** An exception has to leave all as it is; so all that can be asked is asked at the end of each run. */
    private boolean asksAll() {
        for (int page = 0; page < 10; page++) {
            for (int cell = 0; cell < 12; cell++) {
                if (!makesTheSame("cell", new int[] {page, cell})) {
                    return false;
                }
            }
            if (!makesTheSame("isReady", new int[] {page})
                    || !makesTheSame("printed", new int[] {below(4), page, below(12)})) {
                return false;
            }
        }
        for (int story = 0; story < 20; story++) {
            if (!makesTheSame("part", new int[] {story, 0}) || !makesTheSame("part", new int[] {story, 1})) {
                return false;
            }
        }
        return makesTheSame("touched", new int[0]) && makesTheSame("solutions", new int[0])
                && makesTheSame("crop", new int[] {6, 6}) && makesTheSame("fit", new int[] {200});
    }

    private boolean isSame(String[] names) {
        // The first 12 advertisements and stories come early, so that what follows has something to work on.
        for (int i = 0; i < 12; i++) {
            if (names.length > 15 && below(3) > 0) {
                if (!makesTheSame("story", argumentsOf("story"))
                        || !makesTheSame("advert", argumentsOf("advert"))) {
                    return false;
                }
            }
        }
        for (int i = 0; i < 10 * DRAWN_CALLS && made < DRAWN_CALLS; i++) {
            if (!draw(names)) {
                return false;
            }
        }
        return asksAll();
    }

    public static void main(String[] args) {
        Checks checks = new Checks();
        for (int run = 0; run < RUNS; run++) {
            ModelTest test = new ModelTest(run);
            checks.begin("run " + run);
            checks.isTrue("the hall answers as the model does", test.isSame(KINDS[run % KINDS.length].split(" ")));
            checks.isTrue("a run has at most " + MOST_CALLS + " calls", test.made <= MOST_CALLS);
        }
        checks.end();
    }
}
