/** Each promise by itself, with answers worked out by hand from the document. */
public final class PromisesTest extends Calls {
    public static void main(String[] args) {
        checks = new Checks("PromisesTest");
        constants();
        newObject();
        begin();
        weigh();
        move();
        observe();
        observeLimits();
        resample();
        set();
        particleOf();
        generationOf();
        ancestor();
        common();
        root();
        mean();
        share();
        would();
        count();
        undo();
        type();
        clearText();
        faultForms();
        faultCalls();
        play();
        fewerParticles();
        checks.end();
    }

    private static void constants() {
        checks.part("constants");
        due("INVALID_ARGUMENT", ParticleLines.INVALID_ARGUMENT, INVALID);
        due("NOT_POSSIBLE", ParticleLines.NOT_POSSIBLE, NOT_POSSIBLE);
        due("LIMIT_REACHED", ParticleLines.LIMIT_REACHED, LIMIT);
        due("NOT_FOUND", ParticleLines.NOT_FOUND, NOT_FOUND);
    }

    private static void newObject() {
        checks.part("promise 1");
        ParticleLines x = new ParticleLines();
        dueAll("places", places(x), 0, 10, 20, 30);
        dueAll("weights", weights(x), 1, 1, 1, 1);
        dueAll("parents", parents(x), NOT_FOUND, NOT_FOUND, NOT_FOUND, NOT_FOUND);
        int[] numbers = {4, 1, 4, 4, 1, 0, 4, 0, 0, 0, 0};
        for (int what = 0; what <= 10; what++) {
            due("count(" + what + ")", x.count(what), numbers[what]);
        }
        due("count(20)", x.count(20), 3);
        due("count(21)", x.count(21), 0);
        due("count(22)", x.count(22), 50);
        due("generationOf(0, 0)", x.generationOf(0, 0), 0);
        ParticleLines other = new ParticleLines();
        other.begin(2, 5, 5);
        other.type('r');
        due("count(0) of the first", x.count(0), 4);
        due("count(10) of the first", x.count(10), 0);
    }

    private static void begin() {
        checks.part("promise 2");
        ParticleLines x = new ParticleLines();
        due("begin(12, 0, 9)", x.begin(12, 0, 9), 1);
        dueAll("places", places(x), 0, 9, 18, 27, 36, 45, 54, 63, 72, 81, 90, 99);
        due("begin(4, 90, 7)", x.begin(4, 90, 7), 1);
        dueAll("places", places(x), 90, 97, 99, 99);
        due("begin(12, 99, 99)", x.begin(12, 99, 99), 1);
        due("count(6)", x.count(6), 1);
        due("begin(1, 0, 0)", x.begin(1, 0, 0), 1);
        due("count(0)", x.count(0), 1);
        due("begin(3, 5, 0)", x.begin(3, 5, 0), 1);
        dueAll("places", places(x), 5, 5, 5);
        x.set(1, 1);
        x.set(2, 7);
        x.weigh(1, 9);
        x.move(1, 1);
        x.observe(6, 50);
        x.resample();
        int generations = x.count(1);
        due("begin(2, 1, 1)", x.begin(2, 1, 1), generations);
        due("count(1)", x.count(1), 1);
        due("count(4)", x.count(4), 1);
        due("count(7)", x.count(7), 0);
        due("count(8)", x.count(8), 0);
        due("count(20)", x.count(20), 3);
        due("count(21)", x.count(21), 1);
        due("count(22)", x.count(22), 7);
        dueAll("weights", weights(x), 1, 1);
        dueAll("parents", parents(x), NOT_FOUND, NOT_FOUND);
        due("generationOf(0, 0)", x.generationOf(0, 0), 0);
        fill(x);
        due("begin(1, 1, 1)", x.begin(1, 1, 1), 20);
        x.undo();
        int states = x.count(9);
        int[][] wrong = {{0, 0, 0}, {13, 0, 0}, {-1, 0, 0}, {MIN, 0, 0}, {MAX, 0, 0},
            {1, -1, 0}, {1, 100, 0}, {1, MIN, 0}, {1, MAX, 0},
            {1, 0, -1}, {1, 0, 100}, {1, 0, MIN}, {1, 0, MAX}};
        for (int[] w : wrong) {
            due("begin(" + w[0] + ", " + w[1] + ", " + w[2] + ")", x.begin(w[0], w[1], w[2]), INVALID);
        }
        due("count(1)", x.count(1), 20);
        due("count(9)", x.count(9), states);
    }

    private static void weigh() {
        checks.part("promise 3");
        ParticleLines x = new ParticleLines();
        x.begin(2, 0, 1);
        due("weigh(0, 6)", x.weigh(0, 6), 6);
        due("weigh(1, 4)", x.weigh(1, 4), 2);
        dueAll("weights", weights(x), 3, 2);
        due("weigh(0, 1000000)", x.weigh(0, 1000000), 500000);
        dueAll("weights", weights(x), 500000, 1);
        due("weigh(1, 0)", x.weigh(1, 0), 0);
        dueAll("weights", weights(x), 1, 0);
        due("weigh(0, 0)", x.weigh(0, 0), NOT_POSSIBLE);
        dueAll("weights", weights(x), 1, 0);
        due("weigh(0, 77)", x.weigh(0, 77), 1);
        due("weigh(1, 1000000)", x.weigh(1, 1000000), 1000000);
        due("weigh(0, 999999)", x.weigh(0, 999999), 999999);
        int states = x.count(9);
        x.undo();
        x.weigh(1, 0);
        due("weigh(0, -1)", x.weigh(0, -1), INVALID);
        due("weigh(0, 1000001)", x.weigh(0, 1000001), INVALID);
        due("weigh(0, MIN)", x.weigh(0, MIN), INVALID);
        due("weigh(0, MAX)", x.weigh(0, MAX), INVALID);
        due("weigh(-1, 0)", x.weigh(-1, 0), INVALID);
        due("weigh(2, 1)", x.weigh(2, 1), INVALID);
        due("weigh(MAX, 1)", x.weigh(MAX, 1), INVALID);
        due("weigh(MIN, 1)", x.weigh(MIN, 1), INVALID);
        due("count(9)", x.count(9), states);
        dueAll("weights", weights(x), 1, 0);
    }

    private static void move() {
        checks.part("promise 4");
        ParticleLines x = new ParticleLines();
        x.weigh(2, 5);
        due("move(5, 0)", x.move(5, 0), 1);
        dueAll("places", places(x), 5, 15, 25, 35);
        dueAll("parents", parents(x), 0, 1, 2, 3);
        dueAll("weights", weights(x), 1, 1, 5, 1);
        due("count(4)", x.count(4), 38044);
        // The noises 35283, 24819, 26463 and 18689 modulo 7 are 3, 4, 3 and 6.
        due("move(-10, 3)", x.move(-10, 3), 2);
        dueAll("places", places(x), 0, 6, 15, 28);
        due("count(4)", x.count(4), 18689);
        due("ancestor(0, 1, 1)", x.ancestor(0, 1, 1), 5);
        x = new ParticleLines();
        // The noises 149, 11249, 57305 and 38044 modulo 199 are 149, 105, 192 and 35.
        due("move(0, 99)", x.move(0, 99), 1);
        dueAll("places", places(x), 50, 16, 99, 0);
        due("move(99, 0)", x.move(99, 0), 2);
        dueAll("places", places(x), 99, 99, 99, 99);
        due("move(-99, 0)", x.move(-99, 0), 3);
        dueAll("places", places(x), 0, 0, 0, 0);
        int[][] wrong = {{100, 0}, {-100, 0}, {MAX, 0}, {MIN, 0}, {0, -1}, {0, 100}, {0, MIN}, {0, MAX}};
        for (int[] w : wrong) {
            due("move(" + w[0] + ", " + w[1] + ")", x.move(w[0], w[1]), INVALID);
        }
        due("count(1)", x.count(1), 4);
        for (int number = 4; number <= 19; number++) {
            due("move(1, 0)", x.move(1, 0), number);
        }
        int noise = x.count(4);
        int states = x.count(9);
        due("move(1, 0)", x.move(1, 0), LIMIT);
        due("move(100, 0)", x.move(100, 0), INVALID);
        due("count(1)", x.count(1), 20);
        due("count(4)", x.count(4), noise);
        due("count(9)", x.count(9), states);
        dueAll("places", places(x), 16, 16, 16, 16);
    }

    private static void observe() {
        checks.part("promise 5");
        ParticleLines x = new ParticleLines();
        x.begin(3, 10, 1);
        x.set(0, 2);
        due("observe(11, 2)", x.observe(11, 2), 2);
        dueAll("weights", weights(x), 1, 2, 1);
        due("count(1)", x.count(1), 1);
        due("count(7)", x.count(7), 1);
        due("count(8)", x.count(8), 0);
        x.undo();
        x.set(0, 3);
        due("observe(11, 2)", x.observe(11, 2), 2);
        dueAll("weights", weights(x), 1, 1, 1);
        dueAll("parents", parents(x), 0, 1, 2);
        due("count(1)", x.count(1), 2);
        due("count(7)", x.count(7), 1);
        due("count(8)", x.count(8), 1);
        due("count(3)", x.count(3), 3);
        due("generationOf(1, 0)", x.generationOf(1, 0), 2);
        due("observe(13, 4)", x.observe(13, 4), 2);
        due("count(7)", x.count(7), 2);
        // The width is reached by the distance: 0, not below it.
        x.begin(3, 10, 1);
        x.set(0, 0);
        due("observe(9, 2)", x.observe(9, 2), 1);
        dueAll("weights", weights(x), 1, 0, 0);
        due("observe(11, 1)", x.observe(11, 1), NOT_POSSIBLE);
        due("observe(99, 99)", x.observe(99, 99), 1);
        dueAll("weights", weights(x), 1, 0, 0);
        due("count(7)", x.count(7), 2);
        int states = x.count(9);
        int[][] wrong = {{-1, 1}, {100, 1}, {MIN, 1}, {MAX, 1}, {0, 0}, {0, 100}, {0, MIN}, {0, MAX}};
        for (int[] w : wrong) {
            due("observe(" + w[0] + ", " + w[1] + ")", x.observe(w[0], w[1]), INVALID);
        }
        due("count(7)", x.count(7), 2);
        due("count(9)", x.count(9), states);
        // 9, 5 and 1: 225 by 107 is 2 and a rest.
        x = withWeights(4, 1, 1, 1);
        x.set(0, 0);
        due("observe(0, 9)", x.observe(0, 9), 2);
        dueAll("weights", weights(x), 9, 5, 1);
        due("count(2)", x.count(2), 15);
    }

    private static void observeLimits() {
        checks.part("promise 5, limits");
        ParticleLines x = withWeights(49, 20000, 1);
        x.set(0, 0);
        due("observe(0, 50)", x.observe(0, 50), 1);
        dueAll("weights", weights(x), 1000000, 1);
        x = withWeights(49, 20001, 1);
        x.set(0, 0);
        due("observe(0, 50)", x.observe(0, 50), LIMIT);
        dueAll("weights", weights(x), 20001, 1);
        due("count(7)", x.count(7), 0);
        // Only behind the division is a weight too great.
        x = withWeights(48, 20001, 1);
        x.set(0, 0);
        due("observe(0, 50)", x.observe(0, 50), 1);
        dueAll("weights", weights(x), 500025, 1);
        x = new ParticleLines();
        fill(x);
        int states = x.count(9);
        due("observe(10, 5)", x.observe(10, 5), LIMIT);
        dueAll("weights", weights(x), 1, 1, 1, 1);
        due("count(7)", x.count(7), 0);
        due("count(9)", x.count(9), states);
        due("observe(99, 1)", x.observe(99, 1), NOT_POSSIBLE);
        due("observe(99, 0)", x.observe(99, 0), INVALID);
        due("observe(15, 99)", x.observe(15, 99), 3);
        x.undo();
        x.set(0, 1);
        due("observe(10, 5)", x.observe(10, 5), 1);
        due("count(1)", x.count(1), 20);
    }

    private static void resample() {
        checks.part("promise 6");
        ParticleLines x = withWeights(10, 3, 1, 1, 1);
        due("resample()", x.resample(), 3);
        dueAll("parents", parents(x), 0, 0, 1, 3);
        dueAll("places", places(x), 0, 0, 10, 30);
        dueAll("weights", weights(x), 1, 1, 1, 1);
        due("count(4)", x.count(4), 1);
        due("count(8)", x.count(8), 1);
        due("generationOf(1, 3)", x.generationOf(1, 3), 0);
        x.undo();
        x.set(2, 0);
        due("resample()", x.resample(), 3);
        dueAll("parents", parents(x), 0, 0, 1, 2);
        x.undo();
        x.set(2, 99);
        due("resample()", x.resample(), 3);
        dueAll("parents", parents(x), 0, 0, 2, 3);
        x = withWeights(10, 3, 1, 1, 1);
        x.set(1, 1);
        // The noises 149, 11249, 57305 and 38044 modulo 6 are 5, 5, 5 and 4.
        due("resample()", x.resample(), 3);
        dueAll("parents", parents(x), 0, 0, 2, 3);
        due("count(4)", x.count(4), 38044);
        due("generationOf(1, 3)", x.generationOf(1, 3), 1);
        x = withWeights(10, 3, 1, 1, 1);
        x.set(1, 2);
        due("resample()", x.resample(), 3);
        dueAll("parents", parents(x), 0, 0, 1, 2);
        due("count(4)", x.count(4), 1);
        due("generationOf(1, 3)", x.generationOf(1, 3), 2);
        // 4 * 7, 4 * 6 and 4 * 4 by 17 are 1 and 11, 1 and 7, 0 and 16.
        x = withWeights(10, 7, 0, 6, 4);
        x.set(1, 2);
        due("resample()", x.resample(), 3);
        dueAll("parents", parents(x), 0, 0, 2, 3);
        for (int scheme = 0; scheme <= 2; scheme++) {
            x = withWeights(10, 0, 0, 1, 0);
            x.set(1, scheme);
            due("resample()", x.resample(), 1);
            dueAll("parents", parents(x), 2, 2, 2, 2);
            dueAll("places", places(x), 20, 20, 20, 20);
        }
        x = withWeights(10, 1000000, 999999, 1, 999998);
        // 50 hundredths of 2999998 and 0, 1, 2, 3 times 2999998 are the points.
        due("resample()", x.resample(), 3);
        dueAll("parents", parents(x), 0, 1, 1, 3);
        fill(x);
        due("resample()", x.resample(), LIMIT);
        due("count(1)", x.count(1), 20);
        due("count(8)", x.count(8), 1);
    }

    private static void set() {
        checks.part("promise 7");
        ParticleLines x = new ParticleLines();
        due("set(0, 12)", x.set(0, 12), 3);
        due("set(0, 0)", x.set(0, 0), 12);
        due("set(1, 2)", x.set(1, 2), 0);
        due("set(1, 0)", x.set(1, 0), 2);
        due("set(2, 99)", x.set(2, 99), 50);
        due("set(2, 0)", x.set(2, 0), 99);
        due("set(2, 0)", x.set(2, 0), 0);
        due("count(9)", x.count(9), 4);
        x.undo();
        x.undo();
        due("count(22)", x.count(22), 99);
        int[][] wrong = {{0, 13}, {0, -1}, {1, 3}, {1, -1}, {2, 100}, {2, -1}, {3, 0}, {-1, 0},
            {MIN, 0}, {MAX, 0}, {0, MIN}, {1, MAX}, {2, MAX}};
        for (int[] w : wrong) {
            due("set(" + w[0] + ", " + w[1] + ")", x.set(w[0], w[1]), INVALID);
        }
        due("count(9)", x.count(9), 2);
        due("count(20)", x.count(20), 0);
        due("count(21)", x.count(21), 0);
        due("count(22)", x.count(22), 99);
    }

    private static void particleOf() {
        checks.part("promise 8");
        ParticleLines x = withWeights(10, 2, 6, 0, 2, 6);
        dueAll("weights", weights(x), 1, 3, 0, 1, 3);
        dueAll("what 3", ofParticles(x, 3), 1, 1, 1, 1, 1);
        dueAll("what 4", ofParticles(x, 4), 1, 3, 0, 1, 3);
        dueAll("what 5", ofParticles(x, 5), 8, 8, 1, 8, 8);
        dueAll("what 6", ofParticles(x, 6), 2, 0, 4, 3, 1);
        x.weigh(0, 9);
        dueAll("what 4", ofParticles(x, 4), 9, 3, 0, 1, 3);
        dueAll("what 5", ofParticles(x, 5), 16, 16, 1, 16, 16);
        x.weigh(1, 7);
        dueAll("what 4", ofParticles(x, 4), 9, 7, 0, 1, 3);
        dueAll("what 5", ofParticles(x, 5), 20, 20, 1, 20, 20);
        x.weigh(3, 5);
        dueAll("what 4", ofParticles(x, 4), 3, 7, 0, 5, 1);
        dueAll("what 5", ofParticles(x, 5), 8, 24, 1, 24, 8);
        x.move(-20, 0);
        dueAll("what 3", ofParticles(x, 3), 3, 3, 3, 1, 1);
        x.resample();
        // S is 24; the points are 12, 36, 60, 84 and 108, the sums 45, 80, 80, 105 and 120.
        dueAll("what 2", ofParticles(x, 2), 0, 0, 1, 3, 4);
        x.begin(1, 4, 4);
        x.weigh(0, 5);
        dueAll("what 4", ofParticles(x, 4), 1);
        dueAll("what 5", ofParticles(x, 5), 1);
        due("particleOf(0, 2)", x.particleOf(0, 2), NOT_FOUND);
        int[][] wrong = {{-1, 0}, {1, 0}, {MIN, 0}, {MAX, 0}, {0, -1}, {0, 7}, {0, MIN}, {0, MAX}, {1, 2}};
        for (int[] w : wrong) {
            due("particleOf(" + w[0] + ", " + w[1] + ")", x.particleOf(w[0], w[1]), INVALID);
        }
    }

    private static ParticleLines family() {
        // Parents: 0, 0, 1, 3, then each its own, then 1, 1, 1, 3.
        ParticleLines x = withWeights(10, 3, 1, 1, 1);
        x.resample();
        x.move(-7, 0);
        x.weigh(0, 0);
        x.weigh(1, 5);
        x.weigh(2, 0);
        x.weigh(3, 3);
        x.set(1, 2);
        x.resample();
        return x;
    }

    private static void generationOf() {
        checks.part("promise 9");
        ParticleLines x = family();
        dueAll("parents", parents(x), 1, 1, 1, 3);
        int[][] dues = {
            {0, NOT_FOUND, NOT_FOUND, NOT_FOUND, 2, 4},
            {2, NOT_FOUND, NOT_FOUND, 0, 2, 3},
            {1, 93, 0, NOT_FOUND, 2, 3},
            {2, NOT_FOUND, NOT_FOUND, 2, 4, 2}};
        for (int generation = 0; generation < 4; generation++) {
            for (int what = 0; what < 6; what++) {
                due("generationOf(" + generation + ", " + what + ")",
                        x.generationOf(generation, what), dues[generation][what]);
            }
        }
        x.move(99, 99);
        x.move(-99, 0);
        for (int change = 0; change < 6; change++) {
            x.set(0, 1);
        }
        due("generationOf(3, 3)", x.generationOf(3, 3), 2);
        due("generationOf(4, 1)", x.generationOf(4, 1), 199);
        due("generationOf(4, 2)", x.generationOf(4, 2), 99);
        due("generationOf(5, 1)", x.generationOf(5, 1), 1);
        due("generationOf(5, 5)", x.generationOf(5, 5), 1);
        int[][] wrong = {{-1, 0}, {6, 0}, {MIN, 0}, {MAX, 0}, {0, -1}, {0, 6}, {0, MIN}, {0, MAX}, {6, 1}};
        for (int[] w : wrong) {
            due("generationOf(" + w[0] + ", " + w[1] + ")", x.generationOf(w[0], w[1]), INVALID);
        }
    }

    private static void ancestor() {
        checks.part("promise 10");
        ParticleLines x = family();
        int[][] numbers = {{0, 0, 0, 3}, {1, 1, 1, 3}, {1, 1, 1, 3}, {0, 1, 2, 3}};
        int[][] places = {{0, 0, 0, 30}, {0, 0, 0, 30}, {0, 0, 0, 23}, {0, 0, 0, 23}};
        for (int generation = 0; generation < 4; generation++) {
            for (int k = 0; k < 4; k++) {
                String call = "ancestor(" + k + ", " + generation;
                due(call + ", 0)", x.ancestor(k, generation, 0), numbers[generation][k]);
                due(call + ", 1)", x.ancestor(k, generation, 1), places[generation][k]);
            }
        }
        int[][] wrong = {{-1, 0, 0}, {4, 0, 0}, {MIN, 0, 0}, {MAX, 0, 0}, {0, -1, 0}, {0, 4, 0},
            {0, MIN, 0}, {0, MAX, 0}, {0, 0, -1}, {0, 0, 2}, {0, 0, MIN}, {0, 0, MAX}};
        for (int[] w : wrong) {
            due("ancestor(" + w[0] + ", " + w[1] + ", " + w[2] + ")", x.ancestor(w[0], w[1], w[2]), INVALID);
        }
    }

    private static void common() {
        checks.part("promise 11");
        ParticleLines x = family();
        due("common(0, 2)", x.common(0, 2), 2);
        due("common(2, 0)", x.common(2, 0), 2);
        due("common(3, 3)", x.common(3, 3), 3);
        due("common(0, 3)", x.common(0, 3), NOT_FOUND);
        x = withWeights(10, 3, 1, 1, 1);
        due("common(0, 1)", x.common(0, 1), NOT_FOUND);
        due("common(1, 1)", x.common(1, 1), 0);
        x.resample();
        x.move(5, 5);
        due("common(0, 1)", x.common(0, 1), 0);
        due("common(1, 2)", x.common(1, 2), NOT_FOUND);
        int[][] wrong = {{-1, 0}, {4, 0}, {MIN, 0}, {MAX, 0}, {0, -1}, {0, 4}, {0, MIN}, {0, MAX}, {4, 4}};
        for (int[] w : wrong) {
            due("common(" + w[0] + ", " + w[1] + ")", x.common(w[0], w[1]), INVALID);
        }
    }

    private static void root() {
        checks.part("promise 12");
        ParticleLines x = family();
        due("root()", x.root(), NOT_FOUND);
        // 1, 1, 1 and 3 come from 0, 0, 0 and 3; when 3 goes, all come from 1 in generation 2.
        x.weigh(3, 0);
        x.resample();
        due("root()", x.root(), 2);
        x.move(1, 1);
        due("root()", x.root(), 2);
        x.weigh(0, 0);
        x.weigh(1, 0);
        x.weigh(2, 0);
        x.resample();
        due("root()", x.root(), 5);
        x.begin(1, 0, 0);
        due("root()", x.root(), 0);
        x.move(1, 1);
        due("root()", x.root(), 1);
        x.begin(2, 0, 0);
        due("root()", x.root(), NOT_FOUND);
    }

    private static void mean() {
        checks.part("promise 13");
        ParticleLines x = family();
        x.weigh(3, 2);
        // The weights are 1, 1, 1 and 2; the places there 0, 0, 0 and 30, later 23.
        due("mean(0, 0)", x.mean(0, 0), 12);
        due("mean(0, 1)", x.mean(0, 1), 1);
        due("mean(3, 0)", x.mean(3, 0), 46);
        due("mean(3, 1)", x.mean(3, 1), 5);
        x = withWeights(0, 1, 2, 3);
        due("mean(0, 0)", x.mean(0, 0), 0);
        due("mean(0, 1)", x.mean(0, 1), 1);
        x.begin(12, 99, 0);
        for (int k = 0; k < 12; k++) {
            x.weigh(k, 1000000 - k % 2);
        }
        due("mean(0, 0)", x.mean(0, 0), 99);
        x.begin(12, 88, 1);
        for (int k = 0; k < 12; k++) {
            x.weigh(k, 1000000 - k % 2);
        }
        // 6 * 1000000 * 93 and 6 * 999999 * 94 by 11999994, which is 6 * 1999999.
        due("mean(0, 0)", x.mean(0, 0), 186999906);
        due("mean(0, 1)", x.mean(0, 1), 1999999);
        int[][] wrong = {{-1, 0}, {1, 0}, {MIN, 0}, {MAX, 0}, {0, -1}, {0, 2}, {0, MIN}, {0, MAX}};
        for (int[] w : wrong) {
            due("mean(" + w[0] + ", " + w[1] + ")", x.mean(w[0], w[1]), INVALID);
        }
    }

    private static void share() {
        checks.part("promise 14");
        ParticleLines x = family();
        x.weigh(3, 3);
        int[][] dues = {
            {0, 0, 99, 1, 1}, {0, 0, 0, 1, 2}, {0, 0, 29, 1, 2}, {0, 0, 30, 1, 1}, {0, 30, 30, 1, 2},
            {0, 31, 99, 0, 1}, {0, 99, 0, 0, 1}, {0, 30, 29, 0, 1}, {3, 23, 99, 1, 2}, {3, 24, 99, 0, 1}};
        for (int[] d : dues) {
            String call = "share(" + d[0] + ", " + d[1] + ", " + d[2];
            due(call + ", 0)", x.share(d[0], d[1], d[2], 0), d[3]);
            due(call + ", 1)", x.share(d[0], d[1], d[2], 1), d[4]);
        }
        x.weigh(3, 4);
        due("share(0, 30, 30, 0)", x.share(0, 30, 30, 0), 4);
        due("share(0, 30, 30, 1)", x.share(0, 30, 30, 1), 7);
        int[][] wrong = {{-1, 0, 0, 0}, {4, 0, 0, 0}, {MIN, 0, 0, 0}, {MAX, 0, 0, 0},
            {0, -1, 0, 0}, {0, 100, 0, 0}, {0, MIN, 0, 0}, {0, MAX, 0, 0},
            {0, 0, -1, 0}, {0, 0, 100, 0}, {0, 0, MIN, 0}, {0, 0, MAX, 0},
            {0, 0, 0, -1}, {0, 0, 0, 2}, {0, 0, 0, MIN}, {0, 0, 0, MAX}};
        for (int[] w : wrong) {
            due("share(" + w[0] + ", " + w[1] + ", " + w[2] + ", " + w[3] + ")",
                    x.share(w[0], w[1], w[2], w[3]), INVALID);
        }
    }

    private static void would() {
        checks.part("promise 15");
        ParticleLines x = withWeights(10, 3, 1, 1, 1);
        dueAll("scheme 0", choices(x, 0), 0, 0, 1, 3);
        dueAll("scheme 1", choices(x, 1), 0, 0, 2, 3);
        dueAll("scheme 2", choices(x, 2), 0, 0, 1, 2);
        due("count(4)", x.count(4), 1);
        due("count(1)", x.count(1), 1);
        x.set(1, 2);
        x.set(2, 0);
        dueAll("scheme 0", choices(x, 0), 0, 0, 1, 2);
        fill(x);
        dueAll("scheme 2", choices(x, 2), 0, 0, 1, 2);
        // 50 hundredths of 199 are 99, which 3 times 33 is not above.
        ParticleLines y = withWeights(10, 33, 83, 83);
        dueAll("scheme 0", choices(y, 0), 1, 1, 2);
        int[][] wrong = {{-1, 0}, {3, 0}, {MIN, 0}, {MAX, 0}, {0, -1}, {0, 4}, {0, MIN}, {0, MAX}};
        for (int[] w : wrong) {
            due("would(" + w[0] + ", " + w[1] + ")", x.would(w[0], w[1]), INVALID);
        }
    }

    private static void count() {
        checks.part("promise 16");
        ParticleLines x = withWeights(0, 5, 0, 10, 0, 0);
        x.set(0, 1);
        x.set(1, 2);
        x.set(2, 98);
        x.observe(3, 9);
        x.type('x');
        x.type('y');
        int[] numbers = {5, 1, 3, 1, 1, 3, 1, 1, 0, 4, 2};
        for (int what = 0; what <= 10; what++) {
            due("count(" + what + ")", x.count(what), numbers[what]);
        }
        due("count(20)", x.count(20), 1);
        due("count(21)", x.count(21), 2);
        due("count(22)", x.count(22), 98);
        x.weigh(0, 0);
        due("count(5)", x.count(5), 4);
        x.resample();
        x.move(0, 9);
        x.resample();
        due("count(1)", x.count(1), 4);
        due("count(7)", x.count(7), 1);
        due("count(8)", x.count(8), 2);
        for (int what : new int[] {-1, 11, 12, 19, 23, 24, MIN, MAX}) {
            due("count(" + what + ")", x.count(what), INVALID);
        }
        x.begin(12, 0, 1);
        for (int k = 0; k < 12; k++) {
            x.weigh(k, 1000000 - k % 2);
        }
        due("count(2)", x.count(2), 11999994);
        // 143999856000036 by 11999988000006 is below 12.
        due("count(3)", x.count(3), 11);
    }

    private static void undo() {
        checks.part("promise 17");
        ParticleLines x = new ParticleLines();
        due("undo()", x.undo(), NOT_POSSIBLE);
        x.weigh(0, 3);
        x.type('q');
        due("undo()", x.undo(), 0);
        due("undo()", x.undo(), NOT_POSSIBLE);
        dueAll("weights", weights(x), 1, 1, 1, 1);
        due("count(10)", x.count(10), 1);
        x.weigh(0, 3);
        x.move(4, 1);
        x.set(0, 0);
        x.observe(4, 90);
        x.resample();
        due("count(9)", x.count(9), 4);
        x.weigh(9, 9);
        x.move(0, 100);
        x.fault(0);
        x.would(1, 3);
        x.clearText();
        due("count(9)", x.count(9), 4);
        due("undo()", x.undo(), 3);
        due("count(8)", x.count(8), 0);
        due("count(7)", x.count(7), 1);
        due("count(1)", x.count(1), 2);
        due("undo()", x.undo(), 2);
        due("count(7)", x.count(7), 0);
        due("count(20)", x.count(20), 0);
        dueAll("weights", weights(x), 3, 1, 1, 1);
        due("undo()", x.undo(), 1);
        due("count(20)", x.count(20), 3);
        due("count(4)", x.count(4), 38044);
        due("undo()", x.undo(), 0);
        due("count(4)", x.count(4), 1);
        due("count(1)", x.count(1), 1);
        dueAll("weights", weights(x), 3, 1, 1, 1);
        due("undo()", x.undo(), NOT_POSSIBLE);
        x.begin(2, 7, 7);
        due("undo()", x.undo(), 0);
        dueAll("places", places(x), 0, 10, 20, 30);
        dueAll("weights", weights(x), 3, 1, 1, 1);
    }

    private static void type() {
        checks.part("promise 18");
        ParticleLines x = new ParticleLines();
        due("type(31)", x.type(31), INVALID);
        due("type(127)", x.type(127), INVALID);
        due("type(-1)", x.type(-1), INVALID);
        due("type(MIN)", x.type(MIN), INVALID);
        due("type(MAX)", x.type(MAX), INVALID);
        due("type(32)", x.type(32), 1);
        due("type(126)", x.type(126), 2);
        for (int length = 3; length <= 60; length++) {
            due("type('r')", x.type('r'), length);
        }
        due("type('r')", x.type('r'), LIMIT);
        due("type(127)", x.type(127), INVALID);
        due("count(10)", x.count(10), 60);
        due("count(9)", x.count(9), 0);
    }

    private static void clearText() {
        checks.part("promise 19");
        ParticleLines x = new ParticleLines();
        due("clearText()", x.clearText(), 0);
        write(x, "m1,2");
        due("clearText()", x.clearText(), 4);
        due("count(10)", x.count(10), 0);
        due("clearText()", x.clearText(), 0);
        due("count(9)", x.count(9), 0);
        due("fault(0)", x.fault(0), NOT_FOUND);
    }

    private static void dueFault(ParticleLines x, String text, int position, int reason, int cause) {
        write(x, text);
        due(text + " fault(0)", x.fault(0), position);
        due(text + " fault(1)", x.fault(1), reason);
        due(text + " fault(2)", x.fault(2), cause);
        due(text + " play()", x.play(), NOT_POSSIBLE);
    }

    private static void faultForms() {
        checks.part("promise 20, forms");
        ParticleLines x = new ParticleLines();
        String[] breaks = {"x", "R;", ";", " r;", "-1,2;", "r", "r ", "rr;", "r1;", "m", "m;", "m,1;", "m-", "m--1,2;",
            "m-,1;", "m1", "m1;", "m12", "m123,1;", "m1,", "m1,;", "m1,-1;", "m1,2", "m1,23", "m1,234;", "m1,2,3;",
            "m-12,34", "o", "o;", "o-1,2;", "o1", "o12", "o123,4;", "o1,", "o1,;", "o1,-2;", "o1,23", "o1,234;", "m 1,2;",
            "m1 ,2;", "m1/2;", "m1:2;"};
        int[] causes = {0, 0, 0, 0, 0, 1, 1, 1, 1, 1, 1, 1, 2, 2,
            2, 2, 2, 3, 3, 3, 3, 3, 4, 5, 5, 4,
            7, 1, 1, 1, 2, 3, 3, 3, 3, 3, 5, 5, 1,
            2, 2, 2};
        due("cases", breaks.length, causes.length);
        for (int k = 0; k < breaks.length; k++) {
            dueFault(x, breaks[k], 0, 1, causes[k]);
            dueFault(x, "r;m-1,2;" + breaks[k], 8, 1, causes[k]);
        }
        due("count(9)", x.count(9), 0);
        for (String sound : new String[] {"", "r;", "m1,2;", "m-1,2;", "m-00,00;", "m99,99;m-99,0;", "o01,09;",
            "o99,99;", "m0,0;o0,1;r;r;m9,9;"}) {
            write(x, sound);
            for (int what = 0; what <= 2; what++) {
                due(sound + " fault(" + what + ")", x.fault(what), NOT_FOUND);
            }
        }
    }

    private static void faultCalls() {
        checks.part("promise 20, calls");
        ParticleLines x = new ParticleLines();
        dueFault(x, "o0,0;", 0, 2, INVALID);
        dueFault(x, "o99,1;", 0, 2, NOT_POSSIBLE);
        dueFault(x, "o99,1;x", 0, 2, NOT_POSSIBLE);
        dueFault(x, "m0,0;o99,1;x", 5, 2, NOT_POSSIBLE);
        dueFault(x, "r;r;r;r;r;r;r;r;r;r;r;r;r;r;r;r;r;r;r;m0,0;r;", 38, 2, LIMIT);
        dueFault(x, "r;r;r;r;r;r;r;r;r;r;r;r;r;r;r;r;r;r;r;r;", 38, 2, LIMIT);
        // The observation resamples: that is the last generation.
        dueFault(x, "r;r;r;r;r;r;r;r;r;r;r;r;r;r;r;r;r;r;o0,1;o0,1;o20,1;", 46, 2, NOT_POSSIBLE);
        x.set(0, 0);
        dueFault(x, "o0,1;o30,1;", 5, 2, NOT_POSSIBLE);
        x.begin(2, 0, 1);
        dueFault(x, "o0,99;o0,99;o0,99;o0,99;", 18, 2, LIMIT);
        due("count(7)", x.count(7), 0);
        due("count(4)", x.count(4), 1);
        fill(x);
        dueFault(x, "m0,0;", 0, 2, LIMIT);
        dueFault(x, "r;", 0, 2, LIMIT);
        write(x, "o0,9;");
        due("fault(0)", x.fault(0), NOT_FOUND);
        for (int what : new int[] {-1, 3, MIN, MAX}) {
            due("fault(" + what + ")", x.fault(what), INVALID);
        }
        x.clearText();
        due("fault(3)", x.fault(3), INVALID);
    }

    private static void play() {
        checks.part("promise 21");
        ParticleLines x = new ParticleLines();
        due("play()", x.play(), 0);
        due("count(9)", x.count(9), 1);
        write(x, "m-3,2;o8,20;r;m00,0;m5,0;r;");
        due("play()", x.play(), 6);
        due("count(9)", x.count(9), 2);
        due("count(10)", x.count(10), 27);
        due("undo()", x.undo(), 1);
        ParticleLines y = new ParticleLines();
        y.move(-3, 2);
        y.observe(8, 20);
        y.resample();
        y.move(0, 0);
        y.move(5, 0);
        y.resample();
        due("play()", x.play(), 6);
        for (int what = 0; what <= 8; what++) {
            due("count(" + what + ")", x.count(what), y.count(what));
        }
        dueAll("places", places(x), places(y));
        dueAll("parents", parents(x), parents(y));
        due("generationOf(1, 1)", x.generationOf(1, 1), 97);
        due("play()", x.play(), 6);
        due("undo()", x.undo(), 2);
        int noise = x.count(4);
        int generations = x.count(1);
        dueFault(x, "m1,1;m1,1;o1,0;", 10, 2, INVALID);
        due("count(4)", x.count(4), noise);
        due("count(1)", x.count(1), generations);
        due("count(9)", x.count(9), 2);
        dueFault(x, "m1,1;m1,1;m1,1", 10, 1, 4);
        due("count(1)", x.count(1), generations);
        x.begin(4, 0, 10);
        write(x, "m-5,0;");
        due("play()", x.play(), 1);
        dueAll("places", places(x), 0, 5, 15, 25);
    }

    private static void fewerParticles() {
        checks.part("promise 2, fewer particles than before");
        ParticleLines x = withWeights(10, 9, 4, 0, 4);
        // 4 * 9 and 4 * 4 by 17 are 2 and 2, 0 and 16.
        dueAll("scheme 2", choices(x, 2), 0, 0, 1, 3);
        x.begin(3, 0, 10);
        x.weigh(0, 2);
        due("count(2)", x.count(2), 4);
        // 6, 3 and 3 by 4 are 1 and 2, 0 and 3, 0 and 3.
        dueAll("scheme 2", choices(x, 2), 0, 1, 2);
        x.weigh(2, 9);
        x.begin(2, 0, 10);
        dueAll("what 6", ofParticles(x, 6), 0, 1);
        due("count(2)", x.count(2), 2);
        due("share(0, 0, 99, 0)", x.share(0, 0, 99, 0), 1);
        due("share(0, 0, 99, 1)", x.share(0, 0, 99, 1), 1);
        due("mean(0, 0)", x.mean(0, 0), 5);
        due("weigh(0, 6)", x.weigh(0, 6), 6);
        due("weigh(1, 6)", x.weigh(1, 6), 1);
    }
}
