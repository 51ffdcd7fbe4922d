import java.util.function.IntUnaryOperator;

/** Each argument one below its range, at both ends of it, and one above it. */
public final class RangesTest extends Calls {
    public static void main(String[] args) {
        checks = new Checks("RangesTest");
        begin();
        weigh();
        move();
        observe();
        set();
        particleOf();
        generationOf();
        ancestor();
        common();
        mean();
        share();
        would();
        count();
        type();
        fault();
        checks.end();
    }

    /** The answers must come from an object that is new at each call. */
    private static void range(String argument, int low, int dueLow, int high, int dueHigh,
            IntUnaryOperator answers) {
        for (int outside : new int[] {low - 1, high + 1, MIN, MAX, low - 65536, high + 65536}) {
            due(argument + " = " + outside, answers.applyAsInt(outside), INVALID);
        }
        due(argument + " = " + low, answers.applyAsInt(low), dueLow);
        due(argument + " = " + high, answers.applyAsInt(high), dueHigh);
    }

    /** What a later call tells, if there was no error. */
    private static int then(int answer, IntUnaryOperator later) {
        return answer < 0 ? answer : later.applyAsInt(0);
    }

    private static ParticleLines with(int many, int first, int step) {
        ParticleLines x = new ParticleLines();
        x.begin(many, first, step);
        return x;
    }

    private static ParticleLines withGenerations(int generations) {
        ParticleLines x = with(2, 40, 20);
        for (int move = 1; move < generations; move++) {
            x.move(1, 0);
        }
        return x;
    }

    private static void begin() {
        checks.part("promise 2, many: 1 to 12");
        range("many", 1, 1, 12, 1, v -> new ParticleLines().begin(v, 3, 2));
        range("many", 1, 1, 12, 12, v -> {
            ParticleLines x = new ParticleLines();
            return then(x.begin(v, 3, 2), z -> x.count(0));
        });
        checks.part("promise 2, first: 0 to 99");
        range("first", 0, 1, 99, 1, v -> new ParticleLines().begin(2, v, 0));
        range("first", 0, 0, 99, 99, v -> {
            ParticleLines x = new ParticleLines();
            return then(x.begin(2, v, 0), z -> x.particleOf(0, 0));
        });
        checks.part("promise 2, step: 0 to 99");
        range("step", 0, 1, 99, 1, v -> new ParticleLines().begin(2, 0, v));
        range("step", 0, 0, 99, 99, v -> {
            ParticleLines x = new ParticleLines();
            return then(x.begin(2, 0, v), z -> x.particleOf(1, 0));
        });
    }

    private static void weigh() {
        checks.part("promise 3, particle");
        range("particle of 1", 0, 1, 0, 1, v -> with(1, 0, 0).weigh(v, 7));
        range("particle of 4", 0, 7, 3, 7, v -> new ParticleLines().weigh(v, 7));
        range("particle of 12", 0, 7, 11, 7, v -> with(12, 0, 0).weigh(v, 7));
        checks.part("promise 3, weight: 0 to 1000000");
        range("weight", 0, 0, 1000000, 1000000, v -> new ParticleLines().weigh(0, v));
    }

    private static void move() {
        checks.part("promise 4, drift: -99 to 99");
        range("drift", -99, 1, 99, 1, v -> new ParticleLines().move(v, 0));
        range("drift", -99, 1, 99, 199, v -> {
            ParticleLines x = new ParticleLines();
            return then(x.move(v, 0), z -> x.generationOf(1, 1));
        });
        range("drift", -99, 0, 99, 99, v -> {
            ParticleLines x = with(1, 50, 0);
            return then(x.move(v, 0), z -> x.particleOf(0, 0));
        });
        checks.part("promise 4, spread: 0 to 99");
        range("spread", 0, 1, 99, 1, v -> new ParticleLines().move(0, v));
        // The noise 149 modulo 199 is 149, which is 50 when 99 are taken away.
        range("spread", 0, 0, 99, 50, v -> {
            ParticleLines x = with(1, 0, 0);
            return then(x.move(0, v), z -> x.particleOf(0, 0));
        });
        range("spread", 0, 0, 99, 99, v -> {
            ParticleLines x = new ParticleLines();
            return then(x.move(0, v), z -> x.generationOf(1, 2));
        });
    }

    private static ParticleLines atBothEnds() {
        ParticleLines x = with(2, 0, 99);
        x.set(0, 0);
        return x;
    }

    private static void observe() {
        checks.part("promise 5, place: 0 to 99");
        range("place", 0, 1, 99, 1, v -> atBothEnds().observe(v, 99));
        range("place", 0, 1, 99, 0, v -> {
            ParticleLines x = atBothEnds();
            return then(x.observe(v, 99), z -> x.particleOf(0, 1));
        });
        checks.part("promise 5, width: 1 to 99");
        range("width", 1, 1, 99, 1, v -> with(2, 0, 1).observe(0, v));
        range("width", 1, 0, 99, 98, v -> {
            ParticleLines x = with(2, 0, 1);
            x.set(0, 0);
            return then(x.observe(0, v), z -> x.particleOf(1, 1));
        });
    }

    private static void set() {
        checks.part("promise 7, what: 0 to 2");
        range("what", 0, 3, 2, 50, v -> new ParticleLines().set(v, 1));
        int[] first = {3, 0, 50};
        int[] greatest = {12, 2, 99};
        for (int what = 0; what <= 2; what++) {
            int setting = what;
            checks.part("Settings, " + what + ": 0 to " + greatest[what] + "; " + first[what]);
            due("count(2" + what + ")", new ParticleLines().count(20 + what), first[what]);
            range("value", 0, first[what], greatest[what], first[what],
                    v -> new ParticleLines().set(setting, v));
            range("value", 0, 0, greatest[what], greatest[what], v -> {
                ParticleLines x = new ParticleLines();
                return then(x.set(setting, v), z -> x.count(20 + setting));
            });
        }
    }

    private static void particleOf() {
        checks.part("promise 8, particle");
        range("particle of 1", 0, 5, 0, 5, v -> with(1, 5, 9).particleOf(v, 0));
        range("particle of 4", 0, 0, 3, 30, v -> new ParticleLines().particleOf(v, 0));
        range("particle of 12", 0, 0, 11, 99, v -> with(12, 0, 9).particleOf(v, 0));
        checks.part("promise 8, what: 0 to 6");
        range("what", 0, 30, 6, 3, v -> new ParticleLines().particleOf(3, v));
    }

    private static void generationOf() {
        checks.part("promise 9, generation");
        range("generation of 1", 0, 0, 0, 0, v -> withGenerations(1).generationOf(v, 0));
        range("generation of 2", 0, 0, 1, 1, v -> withGenerations(2).generationOf(v, 0));
        range("generation of 20", 0, 0, 19, 1, v -> withGenerations(20).generationOf(v, 0));
        checks.part("promise 9, what: 0 to 5");
        range("what", 0, 1, 5, 2, v -> withGenerations(2).generationOf(1, v));
    }

    private static void ancestor() {
        checks.part("promise 10, particle");
        range("particle of 1", 0, 0, 0, 0, v -> with(1, 5, 9).ancestor(v, 0, 0));
        range("particle of 2", 0, 40, 1, 60, v -> withGenerations(2).ancestor(v, 0, 1));
        range("particle of 12", 0, 0, 11, 11, v -> with(12, 5, 9).ancestor(v, 0, 0));
        checks.part("promise 10, generation");
        range("generation of 1", 0, 60, 0, 60, v -> withGenerations(1).ancestor(1, v, 1));
        range("generation of 2", 0, 60, 1, 61, v -> withGenerations(2).ancestor(1, v, 1));
        range("generation of 20", 0, 60, 19, 79, v -> withGenerations(20).ancestor(1, v, 1));
        checks.part("promise 10, what: 0 to 1");
        range("what", 0, 1, 1, 61, v -> withGenerations(2).ancestor(1, 1, v));
    }

    private static void common() {
        checks.part("promise 11, one");
        range("one of 1", 0, 0, 0, 0, v -> with(1, 5, 9).common(v, 0));
        range("one of 4", 0, NOT_FOUND, 3, 0, v -> new ParticleLines().common(v, 3));
        range("one of 12", 0, 0, 11, NOT_FOUND, v -> with(12, 5, 9).common(v, 0));
        checks.part("promise 11, other");
        range("other of 1", 0, 0, 0, 0, v -> with(1, 5, 9).common(0, v));
        range("other of 4", 0, NOT_FOUND, 3, 0, v -> new ParticleLines().common(3, v));
        range("other of 12", 0, 0, 11, NOT_FOUND, v -> with(12, 5, 9).common(0, v));
    }

    private static void mean() {
        checks.part("promise 13, generation");
        range("generation of 1", 0, 50, 0, 50, v -> withGenerations(1).mean(v, 0));
        range("generation of 2", 0, 50, 1, 51, v -> withGenerations(2).mean(v, 0));
        range("generation of 20", 0, 50, 19, 69, v -> withGenerations(20).mean(v, 0));
        checks.part("promise 13, part: 0 to 1");
        range("part", 0, 15, 1, 1, v -> new ParticleLines().mean(0, v));
    }

    private static void share() {
        checks.part("promise 14, generation");
        range("generation of 1", 0, 1, 0, 1, v -> withGenerations(1).share(v, 0, 99, 0));
        range("generation of 2", 0, 1, 1, 0, v -> withGenerations(2).share(v, 40, 40, 0));
        range("generation of 20", 0, 0, 19, 1, v -> withGenerations(20).share(v, 59, 59, 0));
        checks.part("promise 14, low: 0 to 99");
        range("low", 0, 4, 99, 0, v -> with(5, 0, 20).share(0, v, 79, 0));
        checks.part("promise 14, high: 0 to 99");
        range("high", 0, 0, 99, 4, v -> with(5, 0, 20).share(0, 1, v, 0));
        checks.part("promise 14, part: 0 to 1");
        range("part", 0, 3, 1, 4, v -> new ParticleLines().share(0, 0, 20, v));
    }

    private static void would() {
        checks.part("promise 15, scheme: 0 to 2");
        // The last point is 21, above 4 * 5; the rests are 0, 4, 4 and 4, and two are wanting.
        range("scheme", 0, 3, 2, 2, v -> withWeights(10, 3, 1, 1, 1).would(v, 3));
        checks.part("promise 15, particle");
        range("particle of 1", 0, 0, 0, 0, v -> with(1, 5, 9).would(0, v));
        range("particle of 4", 0, 0, 3, 3, v -> new ParticleLines().would(1, v));
        range("particle of 12", 0, 0, 11, 11, v -> with(12, 5, 9).would(2, v));
    }

    private static void count() {
        checks.part("promise 16, what: 0 to 10, 20 to 22");
        range("what", 0, 4, 10, 0, v -> new ParticleLines().count(v));
        range("what", 20, 3, 22, 50, v -> new ParticleLines().count(v));
        for (int what = 11; what <= 19; what++) {
            due("count(" + what + ")", new ParticleLines().count(what), INVALID);
        }
    }

    private static void type() {
        checks.part("promise 18, character: 32 to 126");
        range("character", 32, 1, 126, 1, v -> new ParticleLines().type(v));
    }

    private static void fault() {
        checks.part("promise 20, what: 0 to 2");
        range("what", 0, 0, 2, 1, v -> {
            ParticleLines x = new ParticleLines();
            x.type('m');
            return x.fault(v);
        });
    }
}
