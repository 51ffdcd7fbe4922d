/**
 * Particles on a line that are moved with noise, weighted by what is observed
 * and resampled when too few of them count.
 *
 * Every change is made on a draft, which takes the place of the present state
 * only if the call returns no error: so a call that fails changes nothing.
 * All states are made by the constructor and used again.
 */
public final class ParticleLines {
    public static final int INVALID_ARGUMENT = -1000001;
    public static final int NOT_POSSIBLE = -1000002;
    public static final int LIMIT_REACHED = -1000003;
    public static final int NOT_FOUND = -1000004;

    private static final int MOST_PARTICLES = 12;
    private static final int MOST_GENERATIONS = 20;
    private static final int MOST_RECORDED = 4;
    private static final int MOST_CHARACTERS = 60;
    private static final int FARTHEST = 99;
    private static final int GREATEST_WEIGHT = 1000000;
    private static final int GREATEST_DRIFT = 99;
    private static final int GREATEST_SPREAD = 99;
    private static final int GREATEST_WIDTH = 99;

    // Settings.
    private static final int THRESHOLD = 0;
    private static final int SCHEME = 1;
    private static final int OFFSET = 2;

    // How a generation came.
    private static final int BY_BEGINNING = 0;
    private static final int BY_MOVE = 1;
    private static final int BY_RESAMPLING = 2;

    // Schemes; what is no other one is BY_SHARES.
    private static final int BY_OFFSET = 0;
    private static final int BY_NOISES = 1;
    private static final int BY_SHARES = 2;

    // Reasons of faults.
    private static final int BAD_FORM = 1;
    private static final int BAD_CALL = 2;

    private State present;
    private State draft;
    private State latestPast;
    private State secondPast;
    private State thirdPast;
    private State oldestPast;
    private int recorded;
    private final Script script;

    public ParticleLines() {
        Choice choice = new Choice();
        present = new State(choice);
        draft = new State(choice);
        latestPast = new State(choice);
        secondPast = new State(choice);
        thirdPast = new State(choice);
        oldestPast = new State(choice);
        recorded = 0;
        script = new Script();
    }

    // ---- particles

    public int begin(int many, int first, int step) {
        draft.copyState(present);
        return keepDraftUnlessError(draft.beginAnew(many, first, step));
    }

    public int weigh(int particle, int weight) {
        draft.copyState(present);
        return keepDraftUnlessError(draft.changeWeight(particle, weight));
    }

    public int move(int drift, int spread) {
        draft.copyState(present);
        return keepDraftUnlessError(draft.shift(drift, spread));
    }

    public int observe(int place, int width) {
        draft.copyState(present);
        return keepDraftUnlessError(draft.look(place, width));
    }

    public int resample() {
        draft.copyState(present);
        return keepDraftUnlessError(draft.renew());
    }

    public int set(int what, int value) {
        draft.copyState(present);
        return keepDraftUnlessError(draft.putSetting(what, value));
    }

    // ---- what there is

    public int particleOf(int particle, int what) {
        if (!present.hasParticle(particle) || !isWithin(what, 0, 6)) {
            return INVALID_ARGUMENT;
        }
        return present.tellOfParticle(particle, what);
    }

    public int generationOf(int generation, int what) {
        if (!present.hasGeneration(generation) || !isWithin(what, 0, 5)) {
            return INVALID_ARGUMENT;
        }
        return present.tellOfGeneration(generation, what);
    }

    public int ancestor(int particle, int generation, int what) {
        if (!present.hasParticle(particle) || !present.hasGeneration(generation)
                || !isWithin(what, 0, 1)) {
            return INVALID_ARGUMENT;
        }
        return present.tellOfAncestor(particle, generation, what);
    }

    public int common(int one, int other) {
        if (!present.hasParticle(one) || !present.hasParticle(other)) {
            return INVALID_ARGUMENT;
        }
        return present.meetingOfTwo(one, other);
    }

    public int root() {
        return present.meetingOfAll();
    }

    // ---- smoothed

    public int mean(int generation, int part) {
        if (!present.hasGeneration(generation) || !isWithin(part, 0, 1)) {
            return INVALID_ARGUMENT;
        }
        return present.partOfMean(generation, part);
    }

    public int share(int generation, int low, int high, int part) {
        if (!present.hasGeneration(generation) || !isWithin(low, 0, FARTHEST)
                || !isWithin(high, 0, FARTHEST) || !isWithin(part, 0, 1)) {
            return INVALID_ARGUMENT;
        }
        return present.partOfShare(generation, low, high, part);
    }

    public int would(int scheme, int particle) {
        if (!isWithin(scheme, BY_OFFSET, BY_SHARES) || !present.hasParticle(particle)) {
            return INVALID_ARGUMENT;
        }
        return present.chosenBy(scheme, particle);
    }

    public int count(int what) {
        if (what == 9) {
            return recorded;
        }
        if (what == 10) {
            return script.length();
        }
        return present.number(what);
    }

    public int undo() {
        if (recorded <= 0) {
            return NOT_POSSIBLE;
        }
        State spare = present;
        present = latestPast;
        latestPast = secondPast;
        secondPast = thirdPast;
        thirdPast = oldestPast;
        oldestPast = spare;
        recorded--;
        return recorded;
    }

    // ---- texts

    public int type(int character) {
        if (!isWithin(character, 32, 126)) {
            return INVALID_ARGUMENT;
        }
        return script.append(character);
    }

    public int clearText() {
        return script.empty();
    }

    public int fault(int what) {
        if (!isWithin(what, 0, 2)) {
            return INVALID_ARGUMENT;
        }
        draft.copyState(present);
        if (script.perform(draft)) {
            return NOT_FOUND;
        }
        return script.tellOfFault(what);
    }

    public int play() {
        draft.copyState(present);
        if (!script.perform(draft)) {
            return NOT_POSSIBLE;
        }
        return keepDraftUnlessError(script.ordersDone());
    }

    // No change answers a negative number but an error.
    private int keepDraftUnlessError(int answer) {
        if (answer < 0) {
            return answer;
        }
        State spare = oldestPast;
        oldestPast = thirdPast;
        thirdPast = secondPast;
        secondPast = latestPast;
        latestPast = present;
        present = draft;
        draft = spare;
        recorded = Math.min(recorded + 1, MOST_RECORDED);
        return answer;
    }

    private static boolean isWithin(int value, int low, int high) {
        return value >= low && value <= high;
    }

    private static int nearestPlace(int place) {
        return Math.max(0, Math.min(FARTHEST, place));
    }

    private static int noiseBehind(int noise) {
        return (noise * 75 + 74) % 65537;
    }

    private static long commonDivisor(long one, long other) {
        long greater = one;
        long rest = other;
        // Euclid's way ends long before, for numbers far beyond those here.
        for (int turn = 0; turn < 200 && rest > 0; turn++) {
            long next = greater % rest;
            greater = rest;
            rest = next;
        }
        return greater;
    }

    private static int partInLowestTerms(long upper, long lower, int part) {
        long divisor = commonDivisor(upper, lower);
        if (divisor <= 0) {
            return 0;
        }
        return (int) ((part == 0 ? upper : lower) / divisor);
    }

    /** Numbers in a row of a fixed length; outside it nothing is kept, and 0 is read. */
    private static final class Row {
        private final int[] numbers;

        Row(int length) {
            numbers = new int[Math.max(0, length)];
        }

        int at(int index) {
            if (index < 0 || index >= numbers.length) {
                return 0;
            }
            return numbers[index];
        }

        void put(int index, int number) {
            if (index >= 0 && index < numbers.length) {
                numbers[index] = number;
            }
        }

        void copyRow(Row other) {
            for (int k = 0; k < numbers.length && k < other.numbers.length; k++) {
                numbers[k] = other.numbers[k];
            }
        }
    }

    /** The weights of the particles, in lowest terms. */
    private static final class Weights {
        private final int[] weights;
        private int many;

        Weights() {
            weights = new int[MOST_PARTICLES];
            many = 0;
        }

        void copyWeights(Weights other) {
            many = other.many;
            for (int k = 0; k < weights.length && k < other.weights.length; k++) {
                weights[k] = other.weights[k];
            }
        }

        void makeEqual(int howMany) {
            many = Math.max(0, Math.min(howMany, weights.length));
            for (int k = 0; k < many && k < weights.length; k++) {
                weights[k] = 1;
            }
        }

        int weightOf(int particle) {
            if (particle < 0 || particle >= weights.length) {
                return 0;
            }
            return weights[particle];
        }

        void putWeight(int particle, int weight) {
            if (particle >= 0 && particle < weights.length) {
                weights[particle] = weight;
            }
        }

        /** Brings them to lowest terms; answers whether one is above 0. */
        boolean reduce() {
            long divisor = 0;
            for (int k = 0; k < many && k < weights.length; k++) {
                divisor = commonDivisor(divisor, weights[k]);
            }
            if (divisor <= 0) {
                return false;
            }
            for (int k = 0; k < many && k < weights.length; k++) {
                weights[k] = (int) (weights[k] / divisor);
            }
            return true;
        }

        int greatest() {
            int greatest = 0;
            for (int k = 0; k < many && k < weights.length; k++) {
                greatest = Math.max(greatest, weights[k]);
            }
            return greatest;
        }

        long sum() {
            long sum = 0;
            for (int k = 0; k < many && k < weights.length; k++) {
                sum += weights[k];
            }
            return sum;
        }

        int effectiveCount() {
            long sum = 0;
            long squares = 0;
            for (int k = 0; k < many && k < weights.length; k++) {
                long weight = weights[k];
                sum += weight;
                squares += weight * weight;
            }
            if (squares <= 0) {
                return 0;
            }
            return (int) (sum * sum / squares);
        }

        int howManyAreZero() {
            int zeros = 0;
            for (int k = 0; k < many && k < weights.length; k++) {
                if (weights[k] == 0) {
                    zeros++;
                }
            }
            return zeros;
        }

        int howManyAheadOf(int particle) {
            int weight = weightOf(particle);
            int ahead = 0;
            for (int k = 0; k < many && k < weights.length; k++) {
                if (weights[k] > weight || (weights[k] == weight && k < particle)) {
                    ahead++;
                }
            }
            return ahead;
        }

        /** The first particle up to which the weights' sum, many times, is above a point. */
        int firstAbove(long point) {
            long sum = 0;
            for (int k = 0; k < many && k < weights.length; k++) {
                sum += weights[k];
                if (many * sum > point) {
                    return k;
                }
            }
            return 0;
        }
    }

    /** What a scheme chooses: an ancestor for each particle, and the noise behind that. */
    private static final class Choice {
        private final int[] ancestors;
        private final long[] rests;
        private int noise;

        Choice() {
            ancestors = new int[MOST_PARTICLES];
            rests = new long[MOST_PARTICLES];
            noise = 0;
        }

        int chosenFor(int particle) {
            if (particle < 0 || particle >= ancestors.length) {
                return 0;
            }
            return ancestors[particle];
        }

        int noise() {
            return noise;
        }

        void choose(int scheme, Weights weights, int offset, int noiseAhead) {
            noise = noiseAhead;
            if (scheme == BY_OFFSET) {
                chooseByOffset(weights, offset);
            } else if (scheme == BY_NOISES) {
                chooseByNoises(weights);
            } else {
                chooseByShares(weights);
            }
        }

        private void chooseByOffset(Weights weights, int offset) {
            long sum = weights.sum();
            long added = offset * sum / 100;
            for (int k = 0; k < weights.many && k < ancestors.length; k++) {
                ancestors[k] = weights.firstAbove(k * sum + added);
            }
        }

        private void chooseByNoises(Weights weights) {
            long sum = weights.sum();
            if (sum <= 0) {
                return;
            }
            for (int k = 0; k < weights.many && k < ancestors.length; k++) {
                noise = noiseBehind(noise);
                ancestors[k] = weights.firstAbove(k * sum + noise % sum);
            }
        }

        private void chooseByShares(Weights weights) {
            long sum = weights.sum();
            if (sum <= 0) {
                return;
            }
            long many = weights.many;
            long wanting = many;
            for (int k = 0; k < many && k < rests.length; k++) {
                long product = many * weights.weightOf(k);
                wanting -= product / sum;
                rests[k] = product % sum;
            }
            int given = 0;
            for (int k = 0; k < many && k < rests.length; k++) {
                long times = many * weights.weightOf(k) / sum;
                if (restsAheadOf(k, many) < wanting) {
                    times++;
                }
                for (int time = 0; time < times && given < ancestors.length; time++) {
                    ancestors[given] = k;
                    given++;
                }
            }
        }

        private int restsAheadOf(int particle, long many) {
            int ahead = 0;
            if (particle < 0 || particle >= rests.length) {
                return ahead;
            }
            long rest = rests[particle];
            for (int k = 0; k < many && k < rests.length; k++) {
                if (rests[k] > rest || (rests[k] == rest && k < particle)) {
                    ahead++;
                }
            }
            return ahead;
        }
    }

    /** All generations: how each came, and the places and parents of its particles. */
    private static final class Lineage {
        // The particles of one generation stand behind those of the one ahead of it.
        private final Row places;
        private final Row parents;
        private final Row origins;
        private final Row drifts;
        private final Row spreads;
        private final Row schemes;
        private int many;
        private int generations;

        Lineage() {
            places = new Row(MOST_GENERATIONS * MOST_PARTICLES);
            parents = new Row(MOST_GENERATIONS * MOST_PARTICLES);
            origins = new Row(MOST_GENERATIONS);
            drifts = new Row(MOST_GENERATIONS);
            spreads = new Row(MOST_GENERATIONS);
            schemes = new Row(MOST_GENERATIONS);
            many = 0;
            generations = 0;
        }

        void copyLineage(Lineage other) {
            places.copyRow(other.places);
            parents.copyRow(other.parents);
            origins.copyRow(other.origins);
            drifts.copyRow(other.drifts);
            spreads.copyRow(other.spreads);
            schemes.copyRow(other.schemes);
            many = other.many;
            generations = other.generations;
        }

        void startWith(int howMany, int first, int step) {
            many = howMany;
            generations = 1;
            origins.put(0, BY_BEGINNING);
            for (int k = 0; k < howMany && k < MOST_PARTICLES; k++) {
                places.put(k, nearestPlace(first + k * step));
            }
        }

        void addMoved(int drift, int spread) {
            origins.put(generations, BY_MOVE);
            drifts.put(generations, drift);
            spreads.put(generations, spread);
            generations++;
        }

        void addResampled(int scheme) {
            origins.put(generations, BY_RESAMPLING);
            schemes.put(generations, scheme);
            generations++;
        }

        /** Puts a particle of the latest generation. */
        void putParticle(int particle, int parent, int place) {
            int index = latest() * MOST_PARTICLES + particle;
            parents.put(index, parent);
            places.put(index, place);
        }

        int many() {
            return many;
        }

        int generations() {
            return generations;
        }

        int latest() {
            return generations - 1;
        }

        int placeIn(int generation, int particle) {
            return places.at(generation * MOST_PARTICLES + particle);
        }

        int parentIn(int generation, int particle) {
            return parents.at(generation * MOST_PARTICLES + particle);
        }

        int originOf(int generation) {
            return origins.at(generation);
        }

        int driftOf(int generation) {
            return drifts.at(generation);
        }

        int spreadOf(int generation) {
            return spreads.at(generation);
        }

        int schemeOf(int generation) {
            return schemes.at(generation);
        }

        int ancestorIn(int generation, int particle) {
            int found = particle;
            for (int g = latest(); g > generation; g--) {
                found = parents.at(g * MOST_PARTICLES + found);
            }
            return found;
        }

        int howManyAreAncestors(int generation) {
            int ancestors = 0;
            for (int k = 0; k < many; k++) {
                ancestors |= 1 << ancestorIn(generation, k);
            }
            return Integer.bitCount(ancestors);
        }

        int howManyAt(int generation, int place) {
            int same = 0;
            for (int k = 0; k < many; k++) {
                if (placeIn(generation, k) == place) {
                    same++;
                }
            }
            return same;
        }

        int howManyUnlikePlaces(int generation) {
            int unlike = 0;
            for (int k = 0; k < many; k++) {
                if (isFirstAtItsPlace(generation, k)) {
                    unlike++;
                }
            }
            return unlike;
        }

        private boolean isFirstAtItsPlace(int generation, int particle) {
            int place = placeIn(generation, particle);
            for (int k = 0; k < particle; k++) {
                if (placeIn(generation, k) == place) {
                    return false;
                }
            }
            return true;
        }

        int meetingOf(int one, int other) {
            int left = one;
            int right = other;
            for (int g = latest(); g >= 0; g--) {
                if (left == right) {
                    return g;
                }
                left = parentIn(g, left);
                right = parentIn(g, right);
            }
            return NOT_FOUND;
        }
    }

    /** All that a change can change, and that a history keeps. */
    private static final class State {
        private final Lineage lineage;
        private final Weights weights;
        private final Row settings;
        // It holds nothing from one call to the next, so all states have the same one.
        private final Choice choice;
        private int noise;
        private int observations;
        private int resamplings;

        State(Choice choice) {
            lineage = new Lineage();
            weights = new Weights();
            settings = new Row(3);
            this.choice = choice;
            settings.put(THRESHOLD, 3);
            settings.put(SCHEME, BY_OFFSET);
            settings.put(OFFSET, 50);
            startAnew(4, 0, 10);
        }

        void copyState(State other) {
            lineage.copyLineage(other.lineage);
            weights.copyWeights(other.weights);
            settings.copyRow(other.settings);
            noise = other.noise;
            observations = other.observations;
            resamplings = other.resamplings;
        }

        private void startAnew(int many, int first, int step) {
            lineage.startWith(many, first, step);
            weights.makeEqual(many);
            noise = 1;
            observations = 0;
            resamplings = 0;
        }

        int beginAnew(int many, int first, int step) {
            if (!isWithin(many, 1, MOST_PARTICLES) || !isWithin(first, 0, FARTHEST)
                    || !isWithin(step, 0, FARTHEST)) {
                return INVALID_ARGUMENT;
            }
            int generationsAhead = lineage.generations();
            startAnew(many, first, step);
            return generationsAhead;
        }

        int changeWeight(int particle, int weight) {
            if (!hasParticle(particle) || !isWithin(weight, 0, GREATEST_WEIGHT)) {
                return INVALID_ARGUMENT;
            }
            weights.putWeight(particle, weight);
            if (!weights.reduce()) {
                return NOT_POSSIBLE;
            }
            return weights.weightOf(particle);
        }

        int shift(int drift, int spread) {
            if (!isWithin(drift, -GREATEST_DRIFT, GREATEST_DRIFT)
                    || !isWithin(spread, 0, GREATEST_SPREAD)) {
                return INVALID_ARGUMENT;
            }
            if (lineage.generations() >= MOST_GENERATIONS) {
                return LIMIT_REACHED;
            }
            int ahead = lineage.latest();
            lineage.addMoved(drift, spread);
            for (int k = 0; k < lineage.many(); k++) {
                noise = noiseBehind(noise);
                int way = drift + noise % (2 * spread + 1) - spread;
                lineage.putParticle(k, k, nearestPlace(lineage.placeIn(ahead, k) + way));
            }
            return lineage.latest();
        }

        int look(int place, int width) {
            if (!isWithin(place, 0, FARTHEST) || !isWithin(width, 1, GREATEST_WIDTH)) {
                return INVALID_ARGUMENT;
            }
            for (int k = 0; k < lineage.many(); k++) {
                int distance = Math.abs(lineage.placeIn(lineage.latest(), k) - place);
                weights.putWeight(k, weights.weightOf(k) * Math.max(0, width - distance));
            }
            if (!weights.reduce()) {
                return NOT_POSSIBLE;
            }
            if (weights.greatest() > GREATEST_WEIGHT) {
                return LIMIT_REACHED;
            }
            observations++;
            int effective = weights.effectiveCount();
            if (effective < settings.at(THRESHOLD) && renew() == LIMIT_REACHED) {
                return LIMIT_REACHED;
            }
            return effective;
        }

        int renew() {
            if (lineage.generations() >= MOST_GENERATIONS) {
                return LIMIT_REACHED;
            }
            int scheme = settings.at(SCHEME);
            choice.choose(scheme, weights, settings.at(OFFSET), noise);
            int ahead = lineage.latest();
            lineage.addResampled(scheme);
            for (int k = 0; k < lineage.many(); k++) {
                int parent = choice.chosenFor(k);
                lineage.putParticle(k, parent, lineage.placeIn(ahead, parent));
            }
            noise = choice.noise();
            weights.makeEqual(lineage.many());
            resamplings++;
            return lineage.howManyAreAncestors(ahead);
        }

        int putSetting(int what, int value) {
            if (!isWithin(what, THRESHOLD, OFFSET)
                    || !isWithin(value, 0, greatestSetting(what))) {
                return INVALID_ARGUMENT;
            }
            int ahead = settings.at(what);
            settings.put(what, value);
            return ahead;
        }

        private static int greatestSetting(int what) {
            switch (what) {
                case THRESHOLD: return MOST_PARTICLES;
                case SCHEME: return BY_SHARES;
                default: return 99;
            }
        }

        boolean hasParticle(int particle) {
            return isWithin(particle, 0, lineage.many() - 1);
        }

        boolean hasGeneration(int generation) {
            return isWithin(generation, 0, lineage.latest());
        }

        int tellOfParticle(int particle, int what) {
            int latest = lineage.latest();
            int place = lineage.placeIn(latest, particle);
            int weight = weights.weightOf(particle);
            switch (what) {
                case 0: return place;
                case 1: return weight;
                case 2: return latest == 0 ? NOT_FOUND : lineage.parentIn(latest, particle);
                case 3: return lineage.howManyAt(latest, place);
                case 4: return partInLowestTerms(weight, weights.sum(), 0);
                case 5: return partInLowestTerms(weight, weights.sum(), 1);
                default: return weights.howManyAheadOf(particle);
            }
        }

        int tellOfGeneration(int generation, int what) {
            int origin = lineage.originOf(generation);
            switch (what) {
                case 0: return origin;
                case 1: return origin == BY_MOVE ? lineage.driftOf(generation) + 100 : NOT_FOUND;
                case 2: return origin == BY_MOVE ? lineage.spreadOf(generation) : NOT_FOUND;
                case 3: return origin == BY_RESAMPLING ? lineage.schemeOf(generation) : NOT_FOUND;
                case 4: return lineage.howManyAreAncestors(generation);
                default: return lineage.howManyUnlikePlaces(generation);
            }
        }

        int tellOfAncestor(int particle, int generation, int what) {
            int found = lineage.ancestorIn(generation, particle);
            return what == 0 ? found : lineage.placeIn(generation, found);
        }

        int meetingOfTwo(int one, int other) {
            return lineage.meetingOf(one, other);
        }

        int meetingOfAll() {
            int earliest = lineage.latest();
            // Particles that have met stay together in all generations ahead of that;
            // NOT_FOUND is below every generation.
            for (int k = 1; k < lineage.many(); k++) {
                earliest = Math.min(earliest, lineage.meetingOf(0, k));
            }
            return earliest;
        }

        int partOfMean(int generation, int part) {
            long upper = 0;
            for (int k = 0; k < lineage.many(); k++) {
                long place = lineage.placeIn(generation, lineage.ancestorIn(generation, k));
                upper += weights.weightOf(k) * place;
            }
            return partInLowestTerms(upper, weights.sum(), part);
        }

        int partOfShare(int generation, int low, int high, int part) {
            long upper = 0;
            for (int k = 0; k < lineage.many(); k++) {
                int place = lineage.placeIn(generation, lineage.ancestorIn(generation, k));
                if (isWithin(place, low, high)) {
                    upper += weights.weightOf(k);
                }
            }
            return partInLowestTerms(upper, weights.sum(), part);
        }

        int chosenBy(int scheme, int particle) {
            choice.choose(scheme, weights, settings.at(OFFSET), noise);
            return choice.chosenFor(particle);
        }

        int number(int what) {
            switch (what) {
                case 0: return lineage.many();
                case 1: return lineage.generations();
                case 2: return (int) weights.sum();
                case 3: return weights.effectiveCount();
                case 4: return noise;
                case 5: return weights.howManyAreZero();
                case 6: return lineage.howManyUnlikePlaces(lineage.latest());
                case 7: return observations;
                case 8: return resamplings;
                case 20: return settings.at(THRESHOLD);
                case 21: return settings.at(SCHEME);
                case 22: return settings.at(OFFSET);
                default: return INVALID_ARGUMENT;
            }
        }
    }

    /** The text, the reading of its orders, and the fault that was met last. */
    private static final class Script {
        private final int[] characters;
        private int length;
        // The order that is read: where it starts, how far it was read, what it says.
        private int start;
        private int position;
        private int kind;
        private int first;
        private int second;
        private int ordersDone;
        private int reason;
        private int cause;

        Script() {
            characters = new int[MOST_CHARACTERS];
        }

        int length() {
            return length;
        }

        int append(int character) {
            if (length < 0 || length >= characters.length) {
                return LIMIT_REACHED;
            }
            characters[length] = character;
            length++;
            return length;
        }

        int empty() {
            int ahead = length;
            length = 0;
            return ahead;
        }

        int ordersDone() {
            return ordersDone;
        }

        int tellOfFault(int what) {
            switch (what) {
                case 0: return start;
                case 1: return reason;
                default: return cause;
            }
        }

        /** Does the orders on a state up to the fault; answers whether there is none. */
        boolean perform(State state) {
            position = 0;
            ordersDone = 0;
            for (int order = 0; order < MOST_CHARACTERS && position < length; order++) {
                start = position;
                if (!readOrder()) {
                    reason = BAD_FORM;
                    cause = position - start;
                    return false;
                }
                int answer = kind == 'm' ? state.shift(first, second)
                        : kind == 'o' ? state.look(first, second) : state.renew();
                if (answer < 0) {
                    reason = BAD_CALL;
                    cause = answer;
                    return false;
                }
                ordersDone++;
            }
            return true;
        }

        // If the order breaks off, the position stays where it does.
        private boolean readOrder() {
            kind = here();
            if (kind != 'm' && kind != 'o' && kind != 'r') {
                return false;
            }
            position++;
            return (kind == 'r' || readNumbers()) && pass(';');
        }

        private boolean readNumbers() {
            boolean isBelowZero = kind == 'm' && pass('-');
            if (!isDigitHere()) {
                return false;
            }
            int number = readNumber();
            first = isBelowZero ? -number : number;
            if (!pass(',') || !isDigitHere()) {
                return false;
            }
            second = readNumber();
            return true;
        }

        private int readNumber() {
            int number = 0;
            for (int digit = 0; digit < 2 && isDigitHere(); digit++) {
                number = number * 10 + here() - '0';
                position++;
            }
            return number;
        }

        private boolean isDigitHere() {
            return isWithin(here(), '0', '9');
        }

        private boolean pass(char character) {
            if (here() != character) {
                return false;
            }
            position++;
            return true;
        }

        // 0, which no text holds, at the end.
        private int here() {
            if (position < 0 || position >= length || position >= characters.length) {
                return 0;
            }
            return characters[position];
        }
    }
}
