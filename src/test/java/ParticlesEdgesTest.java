/** The edges in 'Particles' and 'Moves', and in promises 1 to 4 and 8. */
public final class ParticlesEdgesTest extends Calls {
    public static void main(String[] args) {
        checks = new Checks("ParticlesEdgesTest");
        fourParticlesAtFirst();
        oneParticle();
        twelveParticles();
        placesAtMost99InTheBeginning();
        stepOfNothing();
        beginningAnew();
        nothingOfThoseThatWereThere();
        beginningTellsGenerations();
        oneWeightAtLeastAboveNothing();
        weightsDividedByTheirGreatestDivisor();
        weightsOfOneParticleAlone();
        greatestWeights();
        weightBehindTheDivision();
        noiseOneAtFirst();
        noiseGoesRound();
        noiseTakenInOrder();
        noiseTakenWithoutSpread();
        generationsFromNothingToTwenty();
        noParentInGenerationNothing();
        placesAtLeastNothing();
        placesAtMost99();
        placeIsCutAtTheEndAlone();
        spreadBothWays();
        greatestSpread();
        weightsStay();
        samePlaces();
        weightsAsFractions();
        particlesAhead();
        checks.end();
    }

    private static ParticleLines with(int many, int first, int step) {
        ParticleLines x = new ParticleLines();
        x.begin(many, first, step);
        return x;
    }

    private static void fourParticlesAtFirst() {
        checks.part("4 at first, numbered from 0");
        ParticleLines x = new ParticleLines();
        due("count(0)", x.count(0), 4);
        due("particleOf(0, 0)", x.particleOf(0, 0), 0);
        due("particleOf(3, 0)", x.particleOf(3, 0), 30);
        due("particleOf(4, 0)", x.particleOf(4, 0), INVALID);
        due("count(1)", x.count(1), 1);
        due("count(2)", x.count(2), 4);
        due("count(9)", x.count(9), 0);
        due("count(10)", x.count(10), 0);
    }

    private static void oneParticle() {
        checks.part("n particles (1 ..)");
        ParticleLines x = with(1, 7, 50);
        dueAll("places", places(x), 7);
        due("weigh(0, 1000000)", x.weigh(0, 1000000), 1);
        due("move(3, 0)", x.move(3, 0), 1);
        due("observe(10, 1)", x.observe(10, 1), 1);
        due("resample() behind it", x.resample(), 1);
        dueAll("places", places(x), 10);
        dueAll("parents", parents(x), 0);
        due("count(8)", x.count(8), 2);
        due("root()", x.root(), 3);
        due("common(0, 0)", x.common(0, 0), 3);
        due("mean(0, 0)", x.mean(0, 0), 7);
        for (int scheme = 0; scheme <= 2; scheme++) {
            dueAll("would " + scheme, choices(x, scheme), 0);
        }
    }

    private static void twelveParticles() {
        checks.part("n particles (.. to 12)");
        ParticleLines x = with(12, 0, 1);
        due("weigh(11, 2)", x.weigh(11, 2), 2);
        due("move(5, 0)", x.move(5, 0), 1);
        due("resample()", x.resample(), 11);
        // S is 13; the points are 6 and k times 13, twelve times the sums 12, 24 and so on.
        dueAll("parents", parents(x), 0, 1, 2, 3, 4, 5, 7, 8, 9, 10, 11, 11);
        dueAll("places", places(x), 5, 6, 7, 8, 9, 10, 12, 13, 14, 15, 16, 16);
        due("ancestor(11, 0, 1)", x.ancestor(11, 0, 1), 11);
    }

    private static void placesAtMost99InTheBeginning() {
        checks.part("farther by a step (but at most 99)");
        dueAll("begin(2, 97, 1)", places(with(2, 97, 1)), 97, 98);
        dueAll("begin(2, 98, 1)", places(with(2, 98, 1)), 98, 99);
        dueAll("begin(2, 99, 1)", places(with(2, 99, 1)), 99, 99);
        dueAll("begin(3, 49, 25)", places(with(3, 49, 25)), 49, 74, 99);
        dueAll("begin(3, 50, 25)", places(with(3, 50, 25)), 50, 75, 99);
        dueAll("begin(3, 0, 99)", places(with(3, 0, 99)), 0, 99, 99);
        dueAll("begin(12, 99, 99)", places(with(12, 99, 99)), 99, 99, 99, 99, 99, 99, 99, 99, 99, 99, 99, 99);
        dueAll("begin(12, 0, 9)", places(with(12, 0, 9)), 0, 9, 18, 27, 36, 45, 54, 63, 72, 81, 90, 99);
    }

    private static void stepOfNothing() {
        checks.part("a step of 0");
        dueAll("begin(3, 0, 0)", places(with(3, 0, 0)), 0, 0, 0);
        dueAll("begin(3, 99, 0)", places(with(3, 99, 0)), 99, 99, 99);
    }

    private static void beginningAnew() {
        checks.part("with the weight 1, in generation 0; the noise is 1, settings stay");
        ParticleLines x = new ParticleLines();
        x.set(0, 12);
        x.set(1, 1);
        x.set(2, 99);
        x.weigh(3, 1000000);
        x.move(-99, 99);
        x.observe(0, 99);
        x.begin(4, 0, 10);
        dueAll("weights", weights(x), 1, 1, 1, 1);
        dueAll("parents", parents(x), NOT_FOUND, NOT_FOUND, NOT_FOUND, NOT_FOUND);
        due("generationOf(0, 0)", x.generationOf(0, 0), 0);
        due("generationOf(1, 0)", x.generationOf(1, 0), INVALID);
        due("count(4)", x.count(4), 1);
        due("count(7)", x.count(7), 0);
        due("count(8)", x.count(8), 0);
        due("count(20)", x.count(20), 12);
        due("count(21)", x.count(21), 1);
        due("count(22)", x.count(22), 99);
    }

    /** Twelve particles, some of them without weight, in all states that are kept. */
    private static ParticleLines crowd() {
        ParticleLines x = with(12, 3, 8);
        for (int k = 0; k < 12; k++) {
            x.weigh(k, k % 3 == 1 ? 0 : 999983 + k);
        }
        for (int move = 0; move < 8; move++) {
            x.move(7, 9);
        }
        x.would(2, 0);
        return x;
    }

    private static void nothingOfThoseThatWereThere() {
        checks.part("begins anew: nothing is left of the particles that were there");
        for (int many = 1; many <= 12; many++) {
            ParticleLines x = crowd();
            ParticleLines y = new ParticleLines();
            for (int change = 0; change < 4; change++) {
                y.set(0, 3);
            }
            x.begin(many, 5, 5);
            y.begin(many, 5, 5);
            dueSame("many = " + many, x, y);
            due("weigh", x.weigh(0, 6), y.weigh(0, 6));
            due("weigh", x.weigh(many - 1, 4), y.weigh(many - 1, 4));
            due("observe", x.observe(many * 2, 80), y.observe(many * 2, 80));
            dueSame("many = " + many + ", behind changes", x, y);
        }
    }

    private static void beginningTellsGenerations() {
        checks.part("returns how many generations there were");
        ParticleLines x = new ParticleLines();
        due("begin with 1", x.begin(12, 0, 0), 1);
        x.move(0, 0);
        due("begin with 2", x.begin(1, 0, 0), 2);
        due("begin with 1 again", x.begin(1, 0, 0), 1);
        fill(x);
        due("begin with 20", x.begin(1, 0, 0), 20);
        due("move behind that", x.move(0, 0), 1);
    }

    private static void oneWeightAtLeastAboveNothing() {
        checks.part("0 or more, one at least above 0; NOT_POSSIBLE if all weights would be 0");
        ParticleLines x = with(2, 0, 1);
        due("weigh(0, 0)", x.weigh(0, 0), 0);
        due("weigh(1, 0)", x.weigh(1, 0), NOT_POSSIBLE);
        dueAll("weights", weights(x), 0, 1);
        due("weigh(0, 0) again", x.weigh(0, 0), 0);
        due("weigh(0, 1)", x.weigh(0, 1), 1);
        due("weigh(1, 0)", x.weigh(1, 0), 0);
        dueAll("weights", weights(x), 1, 0);
        due("weigh of the only one", with(1, 0, 0).weigh(0, 0), NOT_POSSIBLE);
        x = with(12, 0, 0);
        for (int k = 0; k < 11; k++) {
            due("weigh(" + k + ", 0)", x.weigh(k, 0), 0);
        }
        due("weigh(11, 0)", x.weigh(11, 0), NOT_POSSIBLE);
        due("count(5)", x.count(5), 11);
    }

    private static void weightsDividedByTheirGreatestDivisor() {
        checks.part("always divided by their greatest common divisor");
        dueAll("4, 6", weights(withWeights(0, 4, 6)), 2, 3);
        dueAll("6, 6", weights(withWeights(0, 6, 6)), 1, 1);
        dueAll("0, 6, 9", weights(withWeights(0, 0, 6, 9)), 0, 2, 3);
        dueAll("6, 0, 9", weights(withWeights(0, 6, 0, 9)), 2, 0, 3);
        dueAll("6, 9, 0", weights(withWeights(0, 6, 9, 0)), 2, 3, 0);
        dueAll("6, 10, 15", weights(withWeights(0, 6, 10, 15)), 6, 10, 15);
        dueAll("1000000, 999999", weights(withWeights(0, 1000000, 999999)), 1000000, 999999);
        dueAll("1000000, 500000", weights(withWeights(0, 1000000, 500000)), 2, 1);
        ParticleLines x = withWeights(0, 6, 10, 15);
        due("weigh(2, 0)", x.weigh(2, 0), 0);
        dueAll("6, 10, 0", weights(x), 3, 5, 0);
        x = withWeights(1, 1, 1, 1);
        x.set(0, 0);
        due("observe(1, 3)", x.observe(1, 3), 2);
        dueAll("2, 3, 2", weights(x), 2, 3, 2);
        due("observe(0, 3)", x.observe(0, 3), 2);
        dueAll("6, 6, 2", weights(x), 3, 3, 1);
    }

    private static void weightsOfOneParticleAlone() {
        checks.part("divided: the one that is above 0 has the weight 1");
        dueAll("0, 0, 9", weights(withWeights(0, 0, 0, 9)), 0, 0, 1);
        ParticleLines x = withWeights(0, 9, 4, 0);
        x.weigh(1, 0);
        dueAll("9, 0, 0", weights(x), 1, 0, 0);
        due("weigh(0, 1000000)", x.weigh(0, 1000000), 1);
    }

    private static void greatestWeights() {
        checks.part("12 particles with weights up to 1000000");
        ParticleLines x = with(12, 99, 0);
        for (int k = 0; k < 12; k++) {
            due("weigh(" + k + ")", x.weigh(k, 1000000 - k / 11), 1000000 - k / 11);
        }
        due("count(2)", x.count(2), 11999999);
        // 143999976000001 by 11999998000001
        due("count(3)", x.count(3), 11);
        due("mean(0, 0)", x.mean(0, 0), 99);
        due("mean(0, 1)", x.mean(0, 1), 1);
        due("particleOf(0, 4)", x.particleOf(0, 4), 1000000);
        due("particleOf(0, 5)", x.particleOf(0, 5), 11999999);
        for (int scheme = 0; scheme <= 2; scheme++) {
            dueAll("would " + scheme, choices(x, scheme), 0, 1, 2, 3, 4, 5, 6, 7, 8, 9, 10, 11);
        }
    }

    private static void weightBehindTheDivision() {
        checks.part("sets the weight ahead of the division; returns its weight then");
        ParticleLines x = with(2, 0, 0);
        due("weigh(0, 12)", x.weigh(0, 12), 12);
        due("weigh(1, 8)", x.weigh(1, 8), 2);
        dueAll("weights", weights(x), 3, 2);
        due("weigh(1, 3)", x.weigh(1, 3), 1);
        dueAll("weights", weights(x), 1, 1);
    }

    private static void noiseOneAtFirst() {
        checks.part("the noise is 1 at first, and is taken when it has become another one");
        ParticleLines x = with(1, 0, 0);
        due("count(4)", x.count(4), 1);
        due("move(0, 74)", x.move(0, 74), 1);
        // It is 149 then, and 149 modulo 149 is 0: the place goes back by 74.
        due("count(4)", x.count(4), 149);
        dueAll("places", places(x), 0);
        x = with(1, 60, 0);
        x.move(0, 37);
        // 149 modulo 75 is 74.
        dueAll("places", places(x), 97);
    }

    private static void noiseGoesRound() {
        checks.part("the noise goes round 65537");
        ParticleLines x = with(1, 0, 0);
        int[] noises = {149, 11249, 57305, 38044, 35283, 24819, 26463, 18689, 25472, 9901, 21742, 57836,
            12332, 7456, 34978, 1944, 14800, 61482, 23634};
        for (int move = 0; move < noises.length; move++) {
            x.move(0, 0);
            due("noise " + (move + 1), x.count(4), noises[move]);
        }
        // As many noises as there is room for: 19 times 12.
        x = with(12, 0, 0);
        int[] later = {57836, 22275, 25332, 52542, 22168, 44060, 40442, 10361, 18332, 1298, 45198, 50121,
            36764, 14669, 13393, 10718, 20159, 45344, 12317};
        for (int move = 0; move < later.length; move++) {
            x.move(0, 0);
            due("noise " + 12 * (move + 1), x.count(4), later[move]);
        }
    }

    private static void noiseTakenInOrder() {
        checks.part("for each particle in order, a noise is taken");
        ParticleLines x = with(12, 50, 0);
        x.move(0, 3);
        // The first twelve noises modulo 7 are 2, 0, 3, 6, 3, 4, 3, 6, 6, 3, 0 and 2.
        dueAll("places", places(x), 49, 47, 50, 53, 50, 51, 50, 53, 53, 50, 47, 49);
    }

    private static void noiseTakenWithoutSpread() {
        checks.part("a noise is taken also with the spread 0");
        ParticleLines x = new ParticleLines();
        x.move(0, 0);
        due("count(4)", x.count(4), 38044);
        dueAll("places", places(x), 0, 10, 20, 30);
    }

    private static void generationsFromNothingToTwenty() {
        checks.part("generations are numbered from 0; there are at most 20");
        ParticleLines x = with(2, 5, 5);
        due("generationOf(0, 0)", x.generationOf(0, 0), 0);
        for (int number = 1; number <= 19; number++) {
            due("move " + number, x.move(1, 0), number);
        }
        due("count(1)", x.count(1), 20);
        due("move 20", x.move(1, 0), LIMIT);
        due("count(1)", x.count(1), 20);
        dueAll("places", places(x), 24, 29);
        due("ancestor(1, 0, 1)", x.ancestor(1, 0, 1), 10);
        due("ancestor(1, 19, 1)", x.ancestor(1, 19, 1), 29);
        due("ancestor(1, 20, 1)", x.ancestor(1, 20, 1), INVALID);
        x.undo();
        due("move 19 again", x.move(-1, 0), 19);
        dueAll("places", places(x), 22, 27);
    }

    private static void noParentInGenerationNothing() {
        checks.part("the ones of generation 0 have no parent");
        ParticleLines x = with(2, 0, 0);
        dueAll("in generation 0", parents(x), NOT_FOUND, NOT_FOUND);
        x.move(0, 0);
        dueAll("in generation 1", parents(x), 0, 1);
        x.undo();
        dueAll("in generation 0 again", parents(x), NOT_FOUND, NOT_FOUND);
        x.resample();
        dueAll("behind resampling", parents(x), 0, 1);
        x.begin(1, 0, 0);
        dueAll("behind begin", parents(x), NOT_FOUND);
    }

    private static void placesAtLeastNothing() {
        checks.part("at least 0");
        ParticleLines x = with(3, 0, 1);
        x.move(-1, 0);
        dueAll("move(-1, 0)", places(x), 0, 0, 1);
        x.move(-1, 0);
        dueAll("move(-1, 0) again", places(x), 0, 0, 0);
        x = with(3, 97, 1);
        x.move(-98, 0);
        dueAll("move(-98, 0)", places(x), 0, 0, 1);
        x = with(3, 97, 1);
        x.move(-99, 0);
        dueAll("move(-99, 0)", places(x), 0, 0, 0);
    }

    private static void placesAtMost99() {
        checks.part("at most 99");
        ParticleLines x = with(3, 97, 1);
        x.move(1, 0);
        dueAll("move(1, 0)", places(x), 98, 99, 99);
        x.move(1, 0);
        dueAll("move(1, 0) again", places(x), 99, 99, 99);
        x = with(3, 0, 1);
        x.move(98, 0);
        dueAll("move(98, 0)", places(x), 98, 99, 99);
        x = with(3, 0, 1);
        x.move(99, 0);
        dueAll("move(99, 0)", places(x), 99, 99, 99);
    }

    private static void placeIsCutAtTheEndAlone() {
        checks.part("the place and the drift and the noise less the spread, but at least 0 and at most 99");
        // The first noises modulo 3 are 2, 2, 2, 1 and 0, modulo 5 they are 4, 4, 0, 4 and 3.
        ParticleLines x = with(5, 0, 0);
        x.move(-1, 1);
        dueAll("at 0, move(-1, 1)", places(x), 0, 0, 0, 0, 0);
        x = with(5, 99, 0);
        x.move(1, 1);
        dueAll("at 99, move(1, 1)", places(x), 99, 99, 99, 99, 99);
        x = with(5, 0, 0);
        x.move(1, 2);
        dueAll("at 0, move(1, 2)", places(x), 3, 3, 0, 3, 2);
        x = with(5, 99, 0);
        x.move(-1, 2);
        dueAll("at 99, move(-1, 2)", places(x), 99, 99, 96, 99, 99);
    }

    private static void spreadBothWays() {
        checks.part("(the noise modulo (2 * spread + 1)) less the spread");
        ParticleLines x = with(5, 50, 0);
        x.move(0, 1);
        dueAll("move(0, 1)", places(x), 51, 51, 51, 50, 49);
        x = with(5, 50, 0);
        x.move(0, 2);
        dueAll("move(0, 2)", places(x), 52, 52, 48, 52, 51);
    }

    private static void greatestSpread() {
        checks.part("spread 99");
        // The ninth noise modulo 199 is 0, the seventh is 195: back by 99 and on by 96.
        ParticleLines x = with(9, 99, 0);
        x.move(0, 99);
        dueAll("at 99", places(x), 99, 99, 99, 35, 60, 99, 99, 99, 0);
        x = with(9, 3, 0);
        x.move(0, 99);
        dueAll("at 3", places(x), 53, 9, 96, 0, 0, 47, 99, 86, 0);
        x = with(9, 99, 0);
        x.move(99, 99);
        dueAll("at 99, with a drift", places(x), 99, 99, 99, 99, 99, 99, 99, 99, 99);
        x = with(9, 0, 0);
        x.move(-99, 99);
        dueAll("at 0, with a drift", places(x), 0, 0, 0, 0, 0, 0, 0, 0, 0);
    }

    private static void weightsStay() {
        checks.part("its parent is the one with its number; weights stay");
        ParticleLines x = withWeights(10, 0, 5, 1000000, 0);
        x.weigh(3, 3);
        x.move(-99, 99);
        dueAll("weights", weights(x), 0, 1, 200000, 3);
        dueAll("parents", parents(x), 0, 1, 2, 3);
    }

    private static void samePlaces() {
        checks.part("how many particles have the same place, it included");
        dueAll("all unlike", ofParticles(with(12, 0, 9), 3), 1, 1, 1, 1, 1, 1, 1, 1, 1, 1, 1, 1);
        dueAll("all alike", ofParticles(with(12, 99, 9), 3), 12, 12, 12, 12, 12, 12, 12, 12, 12, 12, 12, 12);
        dueAll("two and one", ofParticles(with(3, 0, 99), 3), 1, 2, 2);
        dueAll("only one", ofParticles(with(1, 0, 0), 3), 1);
    }

    private static void weightsAsFractions() {
        checks.part("fractions in lowest terms, the lower part above 0");
        ParticleLines x = withWeights(0, 2, 0, 1, 1);
        dueAll("upper parts", ofParticles(x, 4), 1, 0, 1, 1);
        dueAll("lower parts", ofParticles(x, 5), 2, 1, 4, 4);
        x = withWeights(0, 0, 7);
        dueAll("upper parts", ofParticles(x, 4), 0, 1);
        dueAll("lower parts", ofParticles(x, 5), 1, 1);
    }

    private static void particlesAhead() {
        checks.part("greater weights, or the same one and a lower number");
        dueAll("all alike", ofParticles(with(12, 0, 0), 6), 0, 1, 2, 3, 4, 5, 6, 7, 8, 9, 10, 11);
        dueAll("rising", ofParticles(withWeights(0, 0, 1, 2, 3), 6), 3, 2, 1, 0);
        dueAll("some alike", ofParticles(withWeights(0, 0, 4, 0, 5, 4), 6), 3, 1, 4, 0, 2);
        dueAll("only one", ofParticles(with(1, 0, 0), 6), 0);
    }
}
