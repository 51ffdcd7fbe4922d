/** The edges in promises 9 to 14. */
public final class AncestryEdgesTest extends Calls {
    public static void main(String[] args) {
        checks = new Checks("AncestryEdgesTest");
        howGenerationsCame();
        driftsFromEndToEnd();
        spreadsFromEndToEnd();
        driftAndSpreadOfNoMove();
        schemeOfNoResampling();
        schemesOfResamplings();
        descendantsInTheLatestGeneration();
        unlikePlacesOfGenerations();
        ancestorInTheLatestGeneration();
        ancestorInTheBeginning();
        ancestorThroughTwentyGenerations();
        commonOfTheSameOne();
        commonOfNone();
        commonInTheLatestGenerationOfSeveral();
        commonThroughTwentyGenerations();
        rootOfOneParticle();
        rootOfNone();
        rootBehindResampling();
        rootOfAllButOne();
        meanOfPlacesAtTheEnds();
        meanInLowestTerms();
        meanOfAncestors();
        shareOfNothing();
        shareOfAll();
        shareWithItsEnds();
        shareBelowLow();
        shareOfAncestors();
        checks.end();
    }

    /** Parents 1, 1, 1, 2 in generation 1, and 3, 3, 3, 3 in generation 3, behind a move. */
    private static ParticleLines family() {
        ParticleLines x = withWeights(33, 0, 3, 1, 0);
        x.resample();
        dueAll("parents", parents(x), 1, 1, 1, 2);
        x.move(-99, 0);
        x.weigh(0, 0);
        x.weigh(1, 0);
        x.weigh(2, 0);
        x.set(1, 2);
        x.resample();
        dueAll("parents", parents(x), 3, 3, 3, 3);
        return x;
    }

    private static void howGenerationsCame() {
        checks.part("0 if it is the beginning, 1 if it came by a move, 2 by resampling");
        ParticleLines x = family();
        int[] dues = {0, 2, 1, 2};
        for (int g = 0; g <= 3; g++) {
            due("generationOf(" + g + ", 0)", x.generationOf(g, 0), dues[g]);
        }
        x.begin(4, 0, 10);
        x.observe(0, 1);
        due("by an observation", x.generationOf(1, 0), 2);
    }

    private static void driftsFromEndToEnd() {
        checks.part("the drift plus 100");
        ParticleLines x = new ParticleLines();
        int[] drifts = {-99, -1, 0, 1, 99};
        for (int k = 0; k < drifts.length; k++) {
            x.move(drifts[k], k);
        }
        for (int k = 0; k < drifts.length; k++) {
            due("drift " + drifts[k], x.generationOf(k + 1, 1), 100 + drifts[k]);
        }
    }

    private static void spreadsFromEndToEnd() {
        checks.part("the spread");
        ParticleLines x = new ParticleLines();
        int[] spreads = {99, 98, 1, 0};
        for (int k = 0; k < spreads.length; k++) {
            x.move(k, spreads[k]);
        }
        for (int k = 0; k < spreads.length; k++) {
            due("spread " + spreads[k], x.generationOf(k + 1, 2), spreads[k]);
        }
    }

    private static void driftAndSpreadOfNoMove() {
        checks.part("NOT_FOUND for 1 and 2 if it did not come by a move");
        ParticleLines x = family();
        for (int what = 1; what <= 2; what++) {
            due("beginning, " + what, x.generationOf(0, what), NOT_FOUND);
            due("resampling, " + what, x.generationOf(1, what), NOT_FOUND);
            due("latest, " + what, x.generationOf(3, what), NOT_FOUND);
        }
        due("move, 1", x.generationOf(2, 1), 1);
        due("move, 2", x.generationOf(2, 2), 0);
        // A generation that comes where a move was undone.
        x = new ParticleLines();
        x.move(5, 5);
        x.undo();
        x.resample();
        due("instead of a move, 1", x.generationOf(1, 1), NOT_FOUND);
        due("instead of a move, 2", x.generationOf(1, 2), NOT_FOUND);
    }

    private static void schemeOfNoResampling() {
        checks.part("NOT_FOUND for 3 if it did not come by resampling");
        ParticleLines x = family();
        due("beginning", x.generationOf(0, 3), NOT_FOUND);
        due("move", x.generationOf(2, 3), NOT_FOUND);
        x = new ParticleLines();
        x.set(1, 2);
        x.resample();
        x.begin(4, 0, 0);
        x.move(0, 0);
        due("instead of resampling", x.generationOf(1, 3), NOT_FOUND);
    }

    private static void schemesOfResamplings() {
        checks.part("the scheme");
        ParticleLines x = new ParticleLines();
        for (int scheme = 0; scheme <= 2; scheme++) {
            x.set(1, scheme);
            x.resample();
        }
        x.set(1, 0);
        for (int scheme = 0; scheme <= 2; scheme++) {
            due("scheme " + scheme, x.generationOf(scheme + 1, 3), scheme);
        }
    }

    private static void descendantsInTheLatestGeneration() {
        checks.part("how many have descendants in the latest generation (itself, if it is this one)");
        ParticleLines x = family();
        int[] dues = {1, 1, 1, 4};
        for (int g = 0; g <= 3; g++) {
            due("generationOf(" + g + ", 4)", x.generationOf(g, 4), dues[g]);
        }
        due("the only one", new ParticleLines().generationOf(0, 4), 4);
        x = new ParticleLines();
        x.begin(12, 0, 0);
        fill(x);
        due("the first of 20", x.generationOf(0, 4), 12);
        due("the last of 20", x.generationOf(19, 4), 12);
        x.begin(1, 0, 0);
        due("one particle", x.generationOf(0, 4), 1);
    }

    private static void unlikePlacesOfGenerations() {
        checks.part("how many unlike places it has");
        ParticleLines x = new ParticleLines();
        x.begin(12, 0, 9);
        due("all unlike", x.generationOf(0, 5), 12);
        x.move(99, 0);
        due("all at 99", x.generationOf(1, 5), 1);
        due("the one ahead", x.generationOf(0, 5), 12);
        due("count(6)", x.count(6), 1);
        x.begin(1, 0, 9);
        due("one particle", x.generationOf(0, 5), 1);
        x.begin(3, 0, 99);
        due("0, 99 and 99", x.generationOf(0, 5), 2);
    }

    private static void ancestorInTheLatestGeneration() {
        checks.part("ancestor: of the latest generation the particle itself");
        ParticleLines x = family();
        for (int k = 0; k < 4; k++) {
            due("ancestor(" + k + ", 3, 0)", x.ancestor(k, 3, 0), k);
            due("ancestor(" + k + ", 3, 1)", x.ancestor(k, 3, 1), x.particleOf(k, 0));
        }
        due("ancestor(3, 0, 0)", new ParticleLines().ancestor(3, 0, 0), 3);
        due("ancestor(3, 0, 1)", new ParticleLines().ancestor(3, 0, 1), 30);
    }

    private static void ancestorInTheBeginning() {
        checks.part("ancestor in the generations ahead");
        ParticleLines x = family();
        for (int k = 0; k < 4; k++) {
            due("ancestor(" + k + ", 2, 0)", x.ancestor(k, 2, 0), 3);
            due("ancestor(" + k + ", 1, 0)", x.ancestor(k, 1, 0), 3);
            due("ancestor(" + k + ", 0, 0)", x.ancestor(k, 0, 0), 2);
            due("ancestor(" + k + ", 2, 1)", x.ancestor(k, 2, 1), 0);
            due("ancestor(" + k + ", 1, 1)", x.ancestor(k, 1, 1), 66);
            due("ancestor(" + k + ", 0, 1)", x.ancestor(k, 0, 1), 66);
        }
    }

    /** Weights 0, 1, 1: each resampling makes 1, 1, 2 of what is there. */
    private static ParticleLines longLine() {
        ParticleLines x = withWeights(10, 0, 1, 1);
        x.set(2, 0);
        for (int number = 1; number <= 19; number++) {
            x.weigh(0, 0);
            due("resample " + number, x.resample(), 2);
        }
        return x;
    }

    private static void ancestorThroughTwentyGenerations() {
        checks.part("ancestors through 20 generations");
        ParticleLines x = longLine();
        dueAll("parents", parents(x), 1, 1, 2);
        due("ancestor(0, 18, 0)", x.ancestor(0, 18, 0), 1);
        due("ancestor(0, 0, 0)", x.ancestor(0, 0, 0), 1);
        due("ancestor(1, 0, 0)", x.ancestor(1, 0, 0), 1);
        due("ancestor(2, 0, 0)", x.ancestor(2, 0, 0), 2);
        due("ancestor(2, 0, 1)", x.ancestor(2, 0, 1), 20);
        due("ancestor(0, 19, 0)", x.ancestor(0, 19, 0), 0);
    }

    private static void commonOfTheSameOne() {
        checks.part("common: two particles (perhaps the same one)");
        ParticleLines x = family();
        due("common(2, 2)", x.common(2, 2), 3);
        due("common(0, 0) at first", new ParticleLines().common(0, 0), 0);
        fill(x);
        due("common(3, 3) of 20", x.common(3, 3), 19);
    }

    private static void commonOfNone() {
        checks.part("common: NOT_FOUND if there is none");
        due("common(0, 1) at first", new ParticleLines().common(0, 1), NOT_FOUND);
        ParticleLines x = new ParticleLines();
        x.begin(2, 5, 0);
        fill(x);
        due("common(0, 1) of 20", x.common(0, 1), NOT_FOUND);
        due("common(1, 0) of 20", x.common(1, 0), NOT_FOUND);
    }

    private static void commonInTheLatestGenerationOfSeveral() {
        checks.part("common: the latest generation");
        ParticleLines x = family();
        due("common(0, 3)", x.common(0, 3), 2);
        x.undo();
        due("common(0, 2) without the last one", x.common(0, 2), 0);
        due("common(2, 3) without the last one", x.common(2, 3), NOT_FOUND);
    }

    private static void commonThroughTwentyGenerations() {
        checks.part("common: through 20 generations");
        ParticleLines x = longLine();
        due("common(0, 1)", x.common(0, 1), 18);
        due("common(1, 2)", x.common(1, 2), NOT_FOUND);
        x = new ParticleLines();
        x.observe(0, 1);
        fill(x);
        due("common(0, 3)", x.common(0, 3), 0);
        due("root()", x.root(), 0);
    }

    private static void rootOfOneParticle() {
        checks.part("root: all particles are one");
        ParticleLines x = new ParticleLines();
        x.begin(1, 9, 9);
        due("at first", x.root(), 0);
        fill(x);
        due("of 20", x.root(), 19);
    }

    private static void rootOfNone() {
        checks.part("root: NOT_FOUND if there is none");
        due("at first", new ParticleLines().root(), NOT_FOUND);
        ParticleLines x = new ParticleLines();
        x.begin(2, 0, 0);
        fill(x);
        due("of 20", x.root(), NOT_FOUND);
    }

    private static void rootBehindResampling() {
        checks.part("root: the latest generation in which all have the same ancestor");
        ParticleLines x = family();
        due("behind resampling", x.root(), 2);
        x.move(0, 0);
        due("behind a move", x.root(), 2);
        x.weigh(0, 0);
        x.weigh(1, 0);
        x.weigh(2, 0);
        x.resample();
        due("behind resampling again", x.root(), 4);
        x.undo();
        due("undone", x.root(), 2);
    }

    private static void rootOfAllButOne() {
        checks.part("root: all particles but one have the same ancestor");
        // Seven times 1 and once 2 are the ancestors, or the other way round.
        ParticleLines x = withWeights(0, 0, 7, 1, 0, 0, 0, 0, 0);
        x.resample();
        dueAll("parents", parents(x), 1, 1, 1, 1, 1, 1, 1, 2);
        due("the last one is another", x.root(), NOT_FOUND);
        x = withWeights(0, 1, 7, 0, 0, 0, 0, 0, 0);
        x.resample();
        dueAll("parents", parents(x), 0, 1, 1, 1, 1, 1, 1, 1);
        due("the first one is another", x.root(), NOT_FOUND);
    }

    private static void meanOfPlacesAtTheEnds() {
        checks.part("the smoothed mean of places at 0 and at 99");
        ParticleLines x = withWeights(0, 5, 7, 9);
        due("all at 0, upper", x.mean(0, 0), 0);
        due("all at 0, lower", x.mean(0, 1), 1);
        x.move(99, 0);
        due("all at 99, upper", x.mean(1, 0), 99);
        due("all at 99, lower", x.mean(1, 1), 1);
        due("ahead, upper", x.mean(0, 0), 0);
        due("ahead, lower", x.mean(0, 1), 1);
    }

    private static void meanInLowestTerms() {
        checks.part("the smoothed mean in lowest terms");
        ParticleLines x = withWeights(10, 0, 1, 2, 3);
        // 10, 40 and 90 by 6
        due("upper", x.mean(0, 0), 70);
        due("lower", x.mean(0, 1), 3);
        x = withWeights(99, 1, 1000000);
        due("greatest upper", x.mean(0, 0), 99000000);
        due("greatest lower", x.mean(0, 1), 1000001);
        x = withWeights(99, 1000000, 1);
        due("least upper", x.mean(0, 0), 99);
        due("least lower", x.mean(0, 1), 1000001);
    }

    private static void meanOfAncestors() {
        checks.part("the weight times the place of its ancestor there");
        ParticleLines x = family();
        int[] dues = {66, 66, 0, 0};
        for (int g = 0; g <= 3; g++) {
            due("mean(" + g + ", 0)", x.mean(g, 0), dues[g]);
            due("mean(" + g + ", 1)", x.mean(g, 1), 1);
        }
        x = longLine();
        x.weigh(2, 3);
        // The weights are 1, 1 and 3, the places there 10, 10 and 20.
        due("mean(0, 0)", x.mean(0, 0), 16);
        due("mean(0, 1)", x.mean(0, 1), 1);
        x.weigh(0, 0);
        due("mean(0, 0) without the first", x.mean(0, 0), 35);
        due("mean(0, 1) without the first", x.mean(0, 1), 2);
    }

    private static void dueShare(ParticleLines x, int generation, int low, int high, int upper, int lower) {
        String call = "share(" + generation + ", " + low + ", " + high;
        due(call + ", 0)", x.share(generation, low, high, 0), upper);
        due(call + ", 1)", x.share(generation, low, high, 1), lower);
    }

    private static void shareOfNothing() {
        checks.part("the smoothed share of a range without particles, or of those without weight");
        ParticleLines x = withWeights(30, 1, 0, 2);
        dueShare(x, 0, 1, 29, 0, 1);
        dueShare(x, 0, 61, 99, 0, 1);
        dueShare(x, 0, 30, 30, 0, 1);
        dueShare(x, 0, 99, 99, 0, 1);
    }

    private static void shareOfAll() {
        checks.part("the smoothed share of all");
        ParticleLines x = withWeights(99, 3, 5, 4);
        dueShare(x, 0, 0, 99, 1, 1);
        dueShare(x, 0, 0, 0, 1, 4);
        dueShare(x, 0, 99, 99, 3, 4);
    }

    private static void shareWithItsEnds() {
        checks.part("the range with its ends");
        ParticleLines x = withWeights(30, 1, 2, 4);
        dueShare(x, 0, 30, 60, 6, 7);
        dueShare(x, 0, 31, 60, 4, 7);
        dueShare(x, 0, 30, 59, 2, 7);
        dueShare(x, 0, 30, 30, 2, 7);
        dueShare(x, 0, 31, 59, 0, 1);
        dueShare(x, 0, 0, 29, 1, 7);
        dueShare(x, 0, 1, 30, 2, 7);
    }

    private static void shareBelowLow() {
        checks.part("below low no place is in it");
        ParticleLines x = withWeights(30, 1, 2, 4);
        dueShare(x, 0, 99, 0, 0, 1);
        dueShare(x, 0, 60, 30, 0, 1);
        dueShare(x, 0, 31, 30, 0, 1);
        dueShare(x, 0, 30, 29, 0, 1);
        dueShare(x, 0, 1, 0, 0, 1);
    }

    private static void shareOfAncestors() {
        checks.part("all particles whose ancestors there are in it");
        ParticleLines x = family();
        dueShare(x, 0, 66, 66, 1, 1);
        dueShare(x, 1, 66, 66, 1, 1);
        dueShare(x, 2, 66, 66, 0, 1);
        dueShare(x, 2, 0, 0, 1, 1);
        x = longLine();
        x.weigh(2, 2);
        dueShare(x, 0, 10, 10, 1, 2);
        dueShare(x, 0, 20, 20, 1, 2);
        dueShare(x, 0, 0, 9, 0, 1);
        dueShare(x, 0, 10, 20, 1, 1);
        dueShare(x, 19, 20, 99, 1, 2);
    }
}
