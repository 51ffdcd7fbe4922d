/** The edges in 'What is observed' and 'Resampling', and in promises 5, 6 and 15. */
public final class ObservingEdgesTest extends Calls {
    public static void main(String[] args) {
        checks = new Checks("ObservingEdgesTest");
        widthLessTheDistance();
        observingAtBothEnds();
        allWeightsWouldBeNothing();
        onlyThoseWithoutWeightInReach();
        weightOfAMillion();
        weightAboveAMillion();
        weightAboveAMillionAheadOfTheDivision();
        effectiveCountRoundedDown();
        effectiveCountOfEqualWeights();
        effectiveCountLessThanTheThreshold();
        thresholdOfNothing();
        thresholdOfOne();
        thresholdOfTwelve();
        thresholdAboveAllParticles();
        resampledBehindObservationsAlone();
        effectiveCountAheadOfResampling();
        dueInTheLastGeneration();
        observationsCounted();
        weightsBehindResampling();
        unlikeAncestors();
        resampleInTheLastGeneration();
        offsetOfNothing();
        offsetRoundedDown();
        greatestOffset();
        pointsOfGreatWeights();
        noiseOfOneModuloOne();
        noiseModuloTheSum();
        noisesStayTaken();
        nothingWanting();
        wantingOfSeveralTheLowest();
        wantingTheGreatestRest();
        wantingAllButOne();
        ancestorOfAll();
        withoutWeightNoAncestor();
        wouldLeavesTheNoise();
        wouldInTheLastGeneration();
        wouldByAnotherScheme();
        checks.end();
    }

    /** Never resampled by itself. */
    private static ParticleLines calm(int step, int... weights) {
        ParticleLines x = withWeights(step, weights);
        x.set(0, 0);
        return x;
    }

    private static ParticleLines resampled(int scheme, int... weights) {
        ParticleLines x = withWeights(1, weights);
        x.set(1, scheme);
        x.resample();
        return x;
    }

    private static void widthLessTheDistance() {
        checks.part("multiplied by the width less the distance, or by 0 if that is below 0");
        dueWeights(2, 1, 0, 0, 1, 0, 0);
        dueWeights(2, 2, 0, 1, 2, 1, 0);
        dueWeights(2, 3, 1, 2, 3, 2, 1);
        dueWeights(2, 5, 3, 4, 5, 4, 3);
        dueWeights(0, 1, 1, 0, 0, 0, 0);
        dueWeights(0, 3, 3, 2, 1, 0, 0);
        dueWeights(4, 3, 0, 0, 1, 2, 3);
        dueWeights(5, 2, 0, 0, 0, 0, 1);
    }

    /** The weights 1 of particles at 0 to 4, behind an observation. */
    private static void dueWeights(int place, int width, int... dues) {
        ParticleLines x = calm(1, 1, 1, 1, 1, 1);
        x.observe(place, width);
        dueAll("observe(" + place + ", " + width + ")", weights(x), dues);
    }

    private static void observingAtBothEnds() {
        checks.part("observing at 0 and at 99");
        ParticleLines x = calm(99, 1, 1);
        due("observe(0, 99)", x.observe(0, 99), 1);
        dueAll("places 0 and 99", weights(x), 1, 0);
        x = calm(99, 1, 1);
        due("observe(99, 99)", x.observe(99, 99), 1);
        dueAll("places 0 and 99", weights(x), 0, 1);
        x = calm(98, 1, 1);
        due("observe(0, 99)", x.observe(0, 99), 1);
        dueAll("places 0 and 98", weights(x), 99, 1);
        x = calm(98, 1, 1);
        due("observe(98, 99)", x.observe(98, 99), 1);
        dueAll("places 0 and 98", weights(x), 1, 99);
        x = calm(0, 1, 1);
        due("observe(99, 99)", x.observe(99, 99), NOT_POSSIBLE);
    }

    private static void allWeightsWouldBeNothing() {
        checks.part("if all weights would be 0, this is NOT_POSSIBLE");
        ParticleLines x = new ParticleLines();
        x.begin(2, 50, 0);
        due("observe(51, 1)", x.observe(51, 1), NOT_POSSIBLE);
        due("observe(49, 1)", x.observe(49, 1), NOT_POSSIBLE);
        due("observe(52, 2)", x.observe(52, 2), NOT_POSSIBLE);
        due("observe(0, 50)", x.observe(0, 50), NOT_POSSIBLE);
        due("observe(99, 49)", x.observe(99, 49), NOT_POSSIBLE);
        due("count(7)", x.count(7), 0);
        due("count(9)", x.count(9), 1);
        x.set(0, 0);
        due("observe(50, 1)", x.observe(50, 1), 2);
        due("observe(51, 2)", x.observe(51, 2), 2);
        due("observe(49, 2)", x.observe(49, 2), 2);
        due("observe(0, 51)", x.observe(0, 51), 2);
        due("observe(99, 50)", x.observe(99, 50), 2);
    }

    private static void onlyThoseWithoutWeightInReach() {
        checks.part("all would be 0: those in reach have no weight");
        ParticleLines x = calm(10, 0, 1, 0);
        due("observe(0, 10)", x.observe(0, 10), NOT_POSSIBLE);
        due("observe(20, 10)", x.observe(20, 10), NOT_POSSIBLE);
        due("observe(0, 11)", x.observe(0, 11), 1);
        due("observe(20, 11)", x.observe(20, 11), 1);
        dueAll("weights", weights(x), 0, 1, 0);
    }

    private static void weightOfAMillion() {
        checks.part("a weight of 1000000 is not above it");
        ParticleLines x = calm(1, 500000, 1);
        due("observe(0, 2)", x.observe(0, 2), 1);
        dueAll("weights", weights(x), 1000000, 1);
        due("observe(0, 1)", x.observe(0, 1), 1);
        dueAll("weights", weights(x), 1, 0);
        x = calm(1, 1, 500000);
        due("observe(1, 2)", x.observe(1, 2), 1);
        dueAll("weights", weights(x), 1, 1000000);
    }

    private static void weightAboveAMillion() {
        checks.part("if a weight would be above 1000000, LIMIT_REACHED");
        // With 500001 and the factor 2 it is 1000002; 1000001 can't come.
        ParticleLines x = calm(1, 500001, 1);
        due("observe(0, 2)", x.observe(0, 2), LIMIT);
        dueAll("the first one too great", weights(x), 500001, 1);
        x = calm(1, 1, 500001);
        due("observe(1, 2)", x.observe(1, 2), LIMIT);
        dueAll("the last one too great", weights(x), 1, 500001);
        x = calm(1, 1, 1000000, 999999);
        due("observe(1, 99)", x.observe(1, 99), LIMIT);
        dueAll("two of them too great", weights(x), 1, 1000000, 999999);
        due("count(7)", x.count(7), 0);
    }

    private static void weightAboveAMillionAheadOfTheDivision() {
        checks.part("above 1000000 (behind the division)");
        ParticleLines x = calm(1, 500001, 2);
        due("observe(0, 2)", x.observe(0, 2), 1);
        dueAll("divided by 2", weights(x), 500001, 1);
        x = calm(0, 1000000, 999999);
        due("observe(0, 99)", x.observe(0, 99), 1);
        dueAll("divided by 99", weights(x), 1000000, 999999);
        x = calm(1, 1000000, 999999);
        due("observe(0, 1)", x.observe(0, 1), 1);
        dueAll("only one left", weights(x), 1, 0);
    }

    private static void effectiveCountRoundedDown() {
        checks.part("the effective count, rounded down");
        // 9 by 5, 16 by 10, 16 by 6, 25 by 9, 49 by 25 and 169 by 57
        int[][] weights = {{2, 1}, {3, 1}, {2, 1, 1}, {2, 2, 1}, {3, 4}, {4, 4, 5}};
        int[] dues = {1, 1, 2, 2, 1, 2};
        for (int k = 0; k < dues.length; k++) {
            due("case " + k, withWeights(0, weights[k]).count(3), dues[k]);
        }
        // 36 by 12 is 3 without a rest.
        due("without a rest", withWeights(0, 3, 1, 1, 1).count(3), 3);
        due("just below 2", withWeights(0, 1000000, 999999).count(3), 1);
    }

    private static void effectiveCountOfEqualWeights() {
        checks.part("the effective count of equal weights");
        for (int many = 1; many <= 12; many++) {
            ParticleLines x = new ParticleLines();
            x.begin(many, 5, 0);
            x.set(0, 0);
            due("count(3) of " + many, x.count(3), many);
            due("observe(5, 9) of " + many, x.observe(5, 9), many);
        }
        due("of one with weight", withWeights(0, 0, 0, 5, 0).count(3), 1);
        due("of two with weight", withWeights(0, 0, 5, 5, 0).count(3), 2);
    }

    private static ParticleLines observed(int threshold, int many) {
        ParticleLines x = new ParticleLines();
        x.begin(many, 5, 0);
        x.set(0, threshold);
        due("observe", x.observe(5, 1), many);
        return x;
    }

    private static void effectiveCountLessThanTheThreshold() {
        checks.part("if it is less than the threshold, the particles are resampled");
        int[][] cases = {{3, 2, 1}, {3, 3, 0}, {3, 4, 0}, {2, 2, 0}, {2, 1, 1}, {5, 4, 1}, {12, 11, 1}, {11, 11, 0}};
        for (int[] c : cases) {
            ParticleLines x = observed(c[0], c[1]);
            due("count(8), threshold " + c[0] + ", effective " + c[1], x.count(8), c[2]);
            due("count(1), threshold " + c[0] + ", effective " + c[1], x.count(1), 1 + c[2]);
        }
        due("first threshold, effective 2", fresh(2).count(8), 1);
        due("first threshold, effective 3", fresh(3).count(8), 0);
    }

    private static ParticleLines fresh(int many) {
        ParticleLines x = new ParticleLines();
        x.begin(many, 5, 0);
        x.observe(5, 1);
        return x;
    }

    private static void thresholdOfNothing() {
        checks.part("threshold 0");
        due("count(8)", observed(0, 1).count(8), 0);
        ParticleLines x = new ParticleLines();
        x.set(0, 0);
        x.observe(0, 1);
        due("count(8)", x.count(8), 0);
        dueAll("weights", weights(x), 1, 0, 0, 0);
    }

    private static void thresholdOfOne() {
        checks.part("threshold 1");
        due("count(8)", observed(1, 1).count(8), 0);
    }

    private static void thresholdOfTwelve() {
        checks.part("threshold 12");
        due("count(8) of 12", observed(12, 12).count(8), 0);
        due("count(8) of 11", observed(12, 11).count(8), 1);
        ParticleLines x = new ParticleLines();
        x.begin(12, 5, 1);
        x.set(0, 12);
        // The weights are 99 to 88: 1122 * 1122 by 105050.
        due("observe(5, 99)", x.observe(5, 99), 11);
        due("count(8)", x.count(8), 1);
    }

    private static void thresholdAboveAllParticles() {
        checks.part("a threshold above the number of particles");
        ParticleLines x = observed(12, 1);
        due("count(8)", x.count(8), 1);
        due("observe(5, 1) again", x.observe(5, 1), 1);
        due("count(8)", x.count(8), 2);
    }

    private static void resampledBehindObservationsAlone() {
        checks.part("resampled behind an observation, and behind nothing else");
        ParticleLines x = withWeights(0, 1, 0, 0);
        x.set(0, 12);
        x.weigh(1, 0);
        x.move(0, 0);
        x.undo();
        due("count(3)", x.count(3), 1);
        due("count(8)", x.count(8), 0);
        due("count(1)", x.count(1), 1);
    }

    private static void effectiveCountAheadOfResampling() {
        checks.part("returns the effective count (ahead of resampling)");
        ParticleLines x = new ParticleLines();
        due("observe(0, 1)", x.observe(0, 1), 1);
        due("count(3)", x.count(3), 4);
        dueAll("weights", weights(x), 1, 1, 1, 1);
        dueAll("parents", parents(x), 0, 0, 0, 0);
        dueAll("places", places(x), 0, 0, 0, 0);
    }

    private static void dueInTheLastGeneration() {
        checks.part("LIMIT_REACHED if there are 20 generations and it is due to resample");
        ParticleLines x = new ParticleLines();
        fill(x);
        due("effective 2", x.observe(15, 6), LIMIT);
        due("effective 3", x.observe(10, 30), 3);
        due("count(7)", x.count(7), 1);
        due("count(8)", x.count(8), 0);
        x = new ParticleLines();
        fill(x);
        x.undo();
        due("with 19 generations", x.observe(15, 6), 2);
        due("count(1)", x.count(1), 20);
        due("with 20 generations", x.observe(10, 1), LIMIT);
        due("count(7)", x.count(7), 1);
    }

    private static void observationsCounted() {
        checks.part("observations and resamplings since the beginning");
        ParticleLines x = new ParticleLines();
        due("count(7)", x.count(7), 0);
        due("count(8)", x.count(8), 0);
        x.observe(15, 99);
        x.observe(99, 1);
        x.observe(10, 1);
        due("count(7)", x.count(7), 2);
        due("count(8)", x.count(8), 1);
        x.resample();
        due("count(7)", x.count(7), 2);
        due("count(8)", x.count(8), 2);
        x.undo();
        due("count(8) undone", x.count(8), 1);
        x.undo();
        due("count(7) undone", x.count(7), 1);
        due("count(8) undone", x.count(8), 0);
        x.begin(4, 0, 0);
        due("count(7) behind begin", x.count(7), 0);
        x.undo();
        due("count(7) behind undo", x.count(7), 1);
    }

    private static void weightsBehindResampling() {
        checks.part("its ancestor's place; all weights are 1 then");
        for (int scheme = 0; scheme <= 2; scheme++) {
            ParticleLines x = resampled(scheme, 0, 1000000, 999999, 0);
            dueAll("weights", weights(x), 1, 1, 1, 1);
            due("count(2)", x.count(2), 4);
            for (int k = 0; k < 4; k++) {
                due("place of " + k, x.particleOf(k, 0), x.particleOf(k, 2));
            }
        }
    }

    private static void unlikeAncestors() {
        checks.part("returns how many unlike ancestors there are");
        for (int scheme = 0; scheme <= 2; scheme++) {
            ParticleLines x = withWeights(0, 0, 0, 1);
            x.set(1, scheme);
            due("one", x.resample(), 1);
            x.begin(12, 0, 0);
            due("twelve", x.resample(), 12);
            x.begin(1, 0, 0);
            due("one of one", x.resample(), 1);
        }
    }

    private static void resampleInTheLastGeneration() {
        checks.part("resample: LIMIT_REACHED if there are 20 generations");
        ParticleLines x = new ParticleLines();
        fill(x);
        due("with 20", x.resample(), LIMIT);
        x.undo();
        due("with 19", x.resample(), 4);
        due("with 20 again", x.resample(), LIMIT);
        due("count(8)", x.count(8), 1);
        x.begin(2, 0, 0);
        for (int number = 1; number <= 19; number++) {
            due("resample " + number, x.resample(), 2);
        }
        due("resample 20", x.resample(), LIMIT);
        due("count(8)", x.count(8), 19);
        due("ancestor(1, 0, 0)", x.ancestor(1, 0, 0), 1);
    }

    private static ParticleLines withOffset(int offset, int... weights) {
        ParticleLines x = withWeights(1, weights);
        x.set(2, offset);
        return x;
    }

    private static void offsetOfNothing() {
        checks.part("setting 2 is 0: the first one for which the sum is above the point");
        dueAll("1, 1", choices(withOffset(0, 1, 1), 0), 0, 1);
        dueAll("0, 1", choices(withOffset(0, 0, 1), 0), 1, 1);
        dueAll("1, 0", choices(withOffset(0, 1, 0), 0), 0, 0);
        dueAll("0, 1, 0, 1", choices(withOffset(0, 0, 1, 0, 1), 0), 1, 1, 3, 3);
        dueAll("1, 1, 2", choices(withOffset(0, 1, 1, 2), 0), 0, 1, 2);
    }

    private static void offsetRoundedDown() {
        checks.part("setting 2 * S / 100, rounded down");
        // 50 hundredths of 199 are 99: four times 25 are above it, three times 33 are not.
        dueAll("25, 58, 58, 58", choices(withOffset(50, 25, 58, 58, 58), 0), 0, 1, 2, 3);
        dueAll("33, 83, 83", choices(withOffset(50, 33, 83, 83), 0), 1, 1, 2);
        // 99 hundredths of 1 are 0, 49 of 2 are 0, 50 of 2 are 1.
        dueAll("0, 1", choices(withOffset(99, 0, 1), 0), 1, 1);
        dueAll("1, 0, 1, 0, 0, with 49", choices(withOffset(49, 1, 0, 1, 0, 0), 0), 0, 0, 0, 2, 2);
        dueAll("1, 0, 1, 0, 0, with 50", choices(withOffset(50, 1, 0, 1, 0, 0), 0), 0, 0, 2, 2, 2);
    }

    private static void greatestOffset() {
        checks.part("setting 2 is 99");
        ParticleLines x = new ParticleLines();
        x.begin(12, 0, 0);
        x.set(2, 99);
        dueAll("twelve times 1", choices(x, 0), 0, 1, 2, 3, 4, 5, 6, 7, 8, 9, 10, 11);
        // S is 101, 99 hundredths of it are 99: the points are 99 and 200 less 202 at most.
        dueAll("50, 51", choices(withOffset(99, 50, 51), 0), 0, 1);
        dueAll("49, 52", choices(withOffset(99, 49, 52), 0), 1, 1);
        dueAll("100, 1", choices(withOffset(99, 100, 1), 0), 0, 1);
        dueAll("100, 1, 0", choices(withOffset(99, 100, 1, 0), 0), 0, 0, 1);
    }

    private static void pointsOfGreatWeights() {
        checks.part("points of the greatest weights");
        ParticleLines x = new ParticleLines();
        x.begin(12, 0, 0);
        x.set(2, 99);
        for (int k = 0; k < 12; k++) {
            x.weigh(k, 1000000 - k / 11);
        }
        for (int scheme = 0; scheme <= 2; scheme++) {
            dueAll("would " + scheme, choices(x, scheme), 0, 1, 2, 3, 4, 5, 6, 7, 8, 9, 10, 11);
        }
        x.weigh(0, 0);
        // S is 10999999: the last point is 120999989 and 10889999, the sum up to the last but one 120000000.
        dueAll("the first one without weight", choices(x, 0), 1, 2, 3, 4, 5, 6, 7, 8, 9, 10, 11, 11);
    }

    private static void noiseOfOneModuloOne() {
        checks.part("scheme 1 when S is 1");
        dueAll("0, 0, 1", choices(withWeights(0, 0, 0, 1), 1), 2, 2, 2);
        dueAll("1", choices(withWeights(0, 1), 1), 0);
        due("count(4)", resampled(1, 1).count(4), 149);
    }

    private static void noiseModuloTheSum() {
        checks.part("(a noise modulo S) added");
        // The first noise is 149, which modulo 149 is 0; the second one is 11249, which modulo it is 74.
        dueAll("S is 149", choices(withWeights(0, 1, 148), 1), 0, 1);
        dueAll("S is 150", choices(withWeights(0, 1, 149), 1), 1, 1);
        dueAll("S is 148", choices(withWeights(0, 1, 147), 1), 0, 1);
        // The point is 149: two times 74 are not above it, two times 75 are.
        dueAll("74 of 1001", choices(withWeights(0, 74, 927), 1), 1, 1);
        dueAll("75 of 1001", choices(withWeights(0, 75, 926), 1), 0, 1);
        dueAll("S is 1000001", choices(withWeights(0, 1000000, 1), 1), 0, 0);
    }

    private static void noisesStayTaken() {
        checks.part("noises being taken in order");
        due("two particles", resampled(1, 1, 1).count(4), 11249);
        due("twelve particles", resampled(1, 1, 1, 1, 1, 1, 1, 1, 1, 1, 1, 1, 1).count(4), 57836);
        due("scheme 0", resampled(0, 1, 1).count(4), 1);
        due("scheme 2", resampled(2, 1, 1).count(4), 1);
        // The third noise modulo 1001 is 248: two times 124 are not above it, two times 125 are.
        due("would(1, 0) with 124", behindResampling(124, 877).would(1, 0), 1);
        due("would(1, 0) with 125", behindResampling(125, 876).would(1, 0), 0);
    }

    private static ParticleLines behindResampling(int one, int other) {
        ParticleLines x = new ParticleLines();
        x.begin(2, 0, 0);
        x.set(1, 1);
        x.resample();
        x.weigh(0, one);
        x.weigh(1, other);
        return x;
    }

    private static void nothingWanting() {
        checks.part("scheme 2: none is wanting");
        dueAll("2, 1, 1, 0", choices(withWeights(0, 2, 1, 1, 0), 2), 0, 0, 1, 2);
        dueAll("0, 1, 1, 2", choices(withWeights(0, 0, 1, 1, 2), 2), 1, 2, 3, 3);
        dueAll("1, 1, 1", choices(withWeights(0, 1, 1, 1), 2), 0, 1, 2);
    }

    private static void wantingOfSeveralTheLowest() {
        checks.part("scheme 2: of several the lowest one");
        // 6 and 2 by 4 are 1 and 2, 0 and 2.
        dueAll("3, 1", choices(withWeights(0, 3, 1), 2), 0, 0);
        dueAll("1, 3", choices(withWeights(0, 1, 3), 2), 0, 1);
        // 4 by 6 is 0 and 4, 12 by 6 is 2.
        dueAll("1, 1, 1, 3", choices(withWeights(0, 1, 1, 1, 3), 2), 0, 1, 3, 3);
        dueAll("1, 3, 1, 1", choices(withWeights(0, 1, 3, 1, 1), 2), 0, 1, 1, 2);
    }

    private static void wantingTheGreatestRest() {
        checks.part("scheme 2: the ones with the greatest rests first");
        // 5 * 1, 5 * 2 and 5 * 3 by 7 are 0 and 5, 1 and 3, 2 and 1.
        dueAll("1, 2, 3, 0, 1", choices(withWeights(0, 1, 2, 3, 0, 1), 2), 0, 1, 2, 2, 4);
        // 3 * 5, 3 * 4 and 3 * 2 by 11 are 1 and 4, 1 and 1, 0 and 6.
        dueAll("5, 4, 2", choices(withWeights(0, 5, 4, 2), 2), 0, 1, 2);
        // 3 * 6, 3 * 4 and 3 * 1 by 11 are 1 and 7, 1 and 1, 0 and 3.
        dueAll("6, 4, 1", choices(withWeights(0, 6, 4, 1), 2), 0, 0, 1);
    }

    private static void wantingAllButOne() {
        checks.part("scheme 2: all but one are wanting");
        // 24 by 13 is 1 and 11, 12 by 13 is 0 and 12.
        dueAll("2 and 1s", choices(withWeights(0, 2, 1, 1, 1, 1, 1, 1, 1, 1, 1, 1, 1), 2),
                0, 1, 2, 3, 4, 5, 6, 7, 8, 9, 10, 11);
        dueAll("1s and 2", choices(withWeights(0, 1, 1, 1, 1, 1, 1, 1, 1, 1, 1, 1, 2), 2),
                0, 1, 2, 3, 4, 5, 6, 7, 8, 9, 10, 11);
    }

    private static void ancestorOfAll() {
        checks.part("one is the ancestor of all");
        for (int scheme = 0; scheme <= 2; scheme++) {
            dueAll("the first", parents(resampled(scheme, 1, 0, 0)), 0, 0, 0);
            dueAll("the last", parents(resampled(scheme, 0, 0, 1)), 2, 2, 2);
        }
        // Two times the greatest one; its rest is the greatest, too, and one is wanting.
        dueAll("the greatest", choices(withWeights(0, 1000000, 1, 1), 2), 0, 0, 0);
        dueAll("the greatest, behind", choices(withWeights(0, 1, 1, 1000000), 2), 2, 2, 2);
    }

    private static void withoutWeightNoAncestor() {
        checks.part("one without weight is no ancestor");
        for (int offset = 0; offset <= 99; offset += 33) {
            ParticleLines x = withOffset(offset, 0, 3, 0, 5, 0);
            for (int scheme = 0; scheme <= 2; scheme++) {
                for (int chosen : choices(x, scheme)) {
                    due("chosen by " + scheme, chosen == 1 || chosen == 3 ? 1 : 0, 1);
                }
            }
        }
    }

    private static void wouldLeavesTheNoise() {
        checks.part("would: the noise stays");
        ParticleLines x = withWeights(0, 74, 927);
        for (int time = 0; time < 3; time++) {
            dueAll("time " + time, choices(x, 1), 1, 1);
            due("count(4)", x.count(4), 1);
        }
        due("count(8)", x.count(8), 0);
        due("count(1)", x.count(1), 1);
        due("count(9)", x.count(9), 3);
    }

    private static void wouldInTheLastGeneration() {
        checks.part("would in the last generation");
        ParticleLines x = withWeights(10, 3, 1, 1, 1);
        fill(x);
        dueAll("scheme 0", choices(x, 0), 0, 0, 1, 3);
        dueAll("scheme 2", choices(x, 2), 0, 0, 1, 2);
        due("would(3, 0)", x.would(3, 0), INVALID);
    }

    private static void wouldByAnotherScheme() {
        checks.part("would: by some scheme, not by the setting");
        for (int setting = 0; setting <= 2; setting++) {
            ParticleLines x = withWeights(10, 3, 1, 1, 1);
            x.set(1, setting);
            dueAll("scheme 0", choices(x, 0), 0, 0, 1, 3);
            dueAll("scheme 1", choices(x, 1), 0, 0, 2, 3);
            dueAll("scheme 2", choices(x, 2), 0, 0, 1, 2);
            due("count(21)", x.count(21), setting);
        }
    }
}
