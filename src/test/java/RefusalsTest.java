import java.util.function.Supplier;
import java.util.function.ToIntFunction;

/** For each error of each call: it is the due one of several, and the call changes nothing. */
public final class RefusalsTest extends Calls {
    public static void main(String[] args) {
        checks = new Checks("RefusalsTest");
        begin();
        weigh();
        move();
        observe();
        observeTooMuch();
        resample();
        set();
        questionsOutOfRange();
        questionsWithoutAnAnswer();
        undo();
        type();
        fault();
        playOfABadForm();
        playOfABadCall();
        invalidRatherThanNotPossible();
        invalidRatherThanLimit();
        invalidRatherThanNotFound();
        notPossibleRatherThanLimit();
        refusedAgainAndAgain();
        checks.end();
    }

    /** Six changes, so that the history is full; the text can be played. */
    private static ParticleLines used() {
        ParticleLines x = new ParticleLines();
        x.begin(3, 20, 9);
        x.set(0, 2);
        x.set(1, 1);
        x.move(3, 4);
        x.observe(25, 30);
        x.resample();
        x.weigh(0, 6);
        write(x, "m-1,5;o22,50;r;");
        return x;
    }

    private static ParticleLines full() {
        ParticleLines x = new ParticleLines();
        x.begin(3, 10, 5);
        x.weigh(1, 4);
        x.set(0, 3);
        fill(x);
        write(x, "o10,90;");
        return x;
    }

    /** One particle has all weight, and the history has two states. */
    private static ParticleLines lonely() {
        ParticleLines x = new ParticleLines();
        x.begin(2, 10, 5);
        x.weigh(0, 0);
        write(x, "m1,1;");
        return x;
    }

    private static void refused(String what, Supplier<ParticleLines> built, ToIntFunction<ParticleLines> call, int code) {
        for (int undos = 0; undos <= 4; undos++) {
            ParticleLines x = built.get();
            ParticleLines y = built.get();
            due(what, call.applyAsInt(x), code);
            for (int undo = 0; undo < undos; undo++) {
                due(what + ", undo()", x.undo(), y.undo());
            }
            dueSame(what + ", " + undos + " undone", x, y);
            due(what + ", play()", x.play(), y.play());
            due(what + ", noise behind play", x.count(4), y.count(4));
            due(what + ", S behind play", x.count(2), y.count(2));
        }
    }

    private static void everywhere(String what, ToIntFunction<ParticleLines> call) {
        refused(what + " of a new object", ParticleLines::new, call, INVALID);
        refused(what + " of a used one", RefusalsTest::used, call, INVALID);
        refused(what + " of a full one", RefusalsTest::full, call, INVALID);
    }

    private static void begin() {
        checks.part("promise 2, refused");
        everywhere("begin(0, 1, 1)", x -> x.begin(0, 1, 1));
        everywhere("begin(13, 1, 1)", x -> x.begin(13, 1, 1));
        everywhere("begin(2, -1, 1)", x -> x.begin(2, -1, 1));
        everywhere("begin(2, 100, 1)", x -> x.begin(2, 100, 1));
        everywhere("begin(2, 1, -1)", x -> x.begin(2, 1, -1));
        everywhere("begin(2, 1, 100)", x -> x.begin(2, 1, 100));
    }

    private static void weigh() {
        checks.part("promise 3, refused");
        everywhere("weigh(-1, 5)", x -> x.weigh(-1, 5));
        everywhere("weigh(n, 5)", x -> x.weigh(x.count(0), 5));
        everywhere("weigh(0, -1)", x -> x.weigh(0, -1));
        everywhere("weigh(0, 1000001)", x -> x.weigh(0, 1000001));
        refused("weigh(1, 0)", RefusalsTest::lonely, x -> x.weigh(1, 0), NOT_POSSIBLE);
    }

    private static void move() {
        checks.part("promise 4, refused");
        everywhere("move(-100, 5)", x -> x.move(-100, 5));
        everywhere("move(100, 5)", x -> x.move(100, 5));
        everywhere("move(5, -1)", x -> x.move(5, -1));
        everywhere("move(5, 100)", x -> x.move(5, 100));
        refused("move(5, 5)", RefusalsTest::full, x -> x.move(5, 5), LIMIT);
    }

    private static void observe() {
        checks.part("promise 5, refused");
        everywhere("observe(-1, 99)", x -> x.observe(-1, 99));
        everywhere("observe(100, 99)", x -> x.observe(100, 99));
        everywhere("observe(20, 0)", x -> x.observe(20, 0));
        everywhere("observe(20, 100)", x -> x.observe(20, 100));
        refused("observe(99, 1) of a new object", ParticleLines::new, x -> x.observe(99, 1), NOT_POSSIBLE);
        refused("observe(99, 1) of a used one", RefusalsTest::used, x -> x.observe(99, 1), NOT_POSSIBLE);
        refused("observe(10, 5) of a lonely one", RefusalsTest::lonely, x -> x.observe(10, 5), NOT_POSSIBLE);
        refused("observe(10, 1) of a full one", RefusalsTest::full, x -> x.observe(10, 1), LIMIT);
    }

    private static ParticleLines heavy() {
        ParticleLines x = withWeights(1, 999999, 1, 1000000);
        x.set(0, 12);
        x.set(1, 1);
        return x;
    }

    private static void observeTooMuch() {
        checks.part("promise 5, a weight would be too great");
        refused("observe(0, 99)", RefusalsTest::heavy, x -> x.observe(0, 99), LIMIT);
        refused("observe(1, 2)", () -> withWeights(1, 1, 500001), x -> x.observe(1, 2), LIMIT);
    }

    private static void resample() {
        checks.part("promise 6, refused");
        refused("resample()", RefusalsTest::full, x -> x.resample(), LIMIT);
    }

    private static void set() {
        checks.part("promise 7, refused");
        everywhere("set(-1, 0)", x -> x.set(-1, 0));
        everywhere("set(3, 0)", x -> x.set(3, 0));
        everywhere("set(0, -1)", x -> x.set(0, -1));
        everywhere("set(0, 13)", x -> x.set(0, 13));
        everywhere("set(1, -1)", x -> x.set(1, -1));
        everywhere("set(1, 3)", x -> x.set(1, 3));
        everywhere("set(2, -1)", x -> x.set(2, -1));
        everywhere("set(2, 100)", x -> x.set(2, 100));
    }

    private static void questionsOutOfRange() {
        checks.part("promises 8 to 16, out of range");
        everywhere("particleOf(n, 0)", x -> x.particleOf(x.count(0), 0));
        everywhere("particleOf(0, 7)", x -> x.particleOf(0, 7));
        everywhere("generationOf(g, 0)", x -> x.generationOf(x.count(1), 0));
        everywhere("generationOf(0, 6)", x -> x.generationOf(0, 6));
        everywhere("ancestor(n, 0, 0)", x -> x.ancestor(x.count(0), 0, 0));
        everywhere("ancestor(0, g, 0)", x -> x.ancestor(0, x.count(1), 0));
        everywhere("ancestor(0, 0, 2)", x -> x.ancestor(0, 0, 2));
        everywhere("common(n, 0)", x -> x.common(x.count(0), 0));
        everywhere("common(0, n)", x -> x.common(0, x.count(0)));
        everywhere("mean(g, 0)", x -> x.mean(x.count(1), 0));
        everywhere("mean(0, 2)", x -> x.mean(0, 2));
        everywhere("share(g, 0, 0, 0)", x -> x.share(x.count(1), 0, 0, 0));
        everywhere("share(0, 100, 0, 0)", x -> x.share(0, 100, 0, 0));
        everywhere("share(0, 0, 100, 0)", x -> x.share(0, 0, 100, 0));
        everywhere("share(0, 0, 0, 2)", x -> x.share(0, 0, 0, 2));
        everywhere("would(3, 0)", x -> x.would(3, 0));
        everywhere("would(1, n)", x -> x.would(1, x.count(0)));
        everywhere("count(11)", x -> x.count(11));
        everywhere("count(23)", x -> x.count(23));
    }

    private static void questionsWithoutAnAnswer() {
        checks.part("promises 8 to 12, not found");
        refused("particleOf(0, 2)", ParticleLines::new, x -> x.particleOf(0, 2), NOT_FOUND);
        refused("generationOf(0, 1)", RefusalsTest::used, x -> x.generationOf(0, 1), NOT_FOUND);
        refused("generationOf(0, 2)", RefusalsTest::used, x -> x.generationOf(0, 2), NOT_FOUND);
        refused("generationOf(0, 3)", RefusalsTest::used, x -> x.generationOf(0, 3), NOT_FOUND);
        refused("common(0, 2)", RefusalsTest::full, x -> x.common(0, 2), NOT_FOUND);
        refused("root()", RefusalsTest::full, x -> x.root(), NOT_FOUND);
    }

    private static void undo() {
        checks.part("promise 17, refused");
        refused("undo()", ParticleLines::new, x -> x.undo(), NOT_POSSIBLE);
        refused("undo() of a text", () -> {
            ParticleLines x = new ParticleLines();
            write(x, "m1,1;r;");
            return x;
        }, x -> x.undo(), NOT_POSSIBLE);
    }

    private static void type() {
        checks.part("promise 18, refused");
        everywhere("type(31)", x -> x.type(31));
        everywhere("type(127)", x -> x.type(127));
        refused("type behind 60", () -> {
            ParticleLines x = new ParticleLines();
            write(x, "m10,10;m10,10;m10,10;m10,10;m10,10;m10,10;m10,10;o20,50;m1;;");
            return x;
        }, x -> x.type(';'), LIMIT);
        refused("type behind 60 of a sound text", () -> {
            ParticleLines x = new ParticleLines();
            write(x, "m10,10;m10,10;m10,10;m10,10;m10,10;m10,10;m10,10;m-09,9;r;r;");
            return x;
        }, x -> x.type('r'), LIMIT);
    }

    private static void fault() {
        checks.part("promise 20, refused");
        everywhere("fault(-1)", x -> x.fault(-1));
        everywhere("fault(3)", x -> x.fault(3));
        for (int what = 0; what <= 2; what++) {
            int asked = what;
            refused("fault(" + what + ") of an empty text", ParticleLines::new, x -> x.fault(asked), NOT_FOUND);
            refused("fault(" + what + ") of a sound text", RefusalsTest::used, x -> x.fault(asked), NOT_FOUND);
        }
    }

    private static void playOf(String text, Supplier<ParticleLines> built) {
        refused("play() of " + text, () -> {
            ParticleLines x = built.get();
            write(x, text);
            return x;
        }, x -> x.play(), NOT_POSSIBLE);
    }

    private static void playOfABadForm() {
        checks.part("promise 21, refused for its form");
        playOf("m1,1;r;o20,50;x", RefusalsTest::used);
        playOf("m1,1;r;o20,50;r", ParticleLines::new);
        playOf(" ", RefusalsTest::used);
        playOf("r", RefusalsTest::full);
    }

    private static void playOfABadCall() {
        checks.part("promise 21, refused for an order");
        playOf("m1,1;r;o20,50;o20,00;", RefusalsTest::used);
        playOf("m1,1;r;o20,50;o99,1;", ParticleLines::new);
        playOf("o10,90;r;", RefusalsTest::full);
        playOf("o10,90;m0,0;", RefusalsTest::full);
        playOf("o10,1;", RefusalsTest::full);
    }

    private static void invalidRatherThanNotPossible() {
        checks.part("INVALID_ARGUMENT is returned rather than NOT_POSSIBLE");
        refused("observe(99, 0)", ParticleLines::new, x -> x.observe(99, 0), INVALID);
        refused("observe(100, 1)", ParticleLines::new, x -> x.observe(100, 1), INVALID);
        refused("weigh(2, 0)", RefusalsTest::lonely, x -> x.weigh(2, 0), INVALID);
        refused("weigh(1, -1)", RefusalsTest::lonely, x -> x.weigh(1, -1), INVALID);
    }

    private static void invalidRatherThanLimit() {
        checks.part("INVALID_ARGUMENT is returned rather than LIMIT_REACHED");
        refused("move(100, 0)", RefusalsTest::full, x -> x.move(100, 0), INVALID);
        refused("move(0, 100)", RefusalsTest::full, x -> x.move(0, 100), INVALID);
        refused("observe(10, 0)", RefusalsTest::full, x -> x.observe(10, 0), INVALID);
        refused("observe(0, 100)", RefusalsTest::heavy, x -> x.observe(0, 100), INVALID);
        refused("type(127)", () -> {
            ParticleLines x = new ParticleLines();
            for (int character = 0; character < 60; character++) {
                x.type('r');
            }
            return x;
        }, x -> x.type(127), INVALID);
    }

    private static void invalidRatherThanNotFound() {
        checks.part("INVALID_ARGUMENT is returned rather than NOT_FOUND");
        refused("particleOf(4, 2)", ParticleLines::new, x -> x.particleOf(4, 2), INVALID);
        refused("generationOf(1, 1)", ParticleLines::new, x -> x.generationOf(1, 1), INVALID);
        refused("generationOf(1, 3)", ParticleLines::new, x -> x.generationOf(1, 3), INVALID);
        refused("common(0, 4)", ParticleLines::new, x -> x.common(0, 4), INVALID);
        refused("common(4, 4)", ParticleLines::new, x -> x.common(4, 4), INVALID);
        refused("fault(3)", ParticleLines::new, x -> x.fault(3), INVALID);
    }

    private static void notPossibleRatherThanLimit() {
        checks.part("NOT_POSSIBLE is returned rather than LIMIT_REACHED");
        refused("observe(99, 1)", RefusalsTest::full, x -> x.observe(99, 1), NOT_POSSIBLE);
    }

    private static void refusedAgainAndAgain() {
        checks.part("a call that returns an error changes nothing, also many times");
        ParticleLines x = used();
        for (int time = 0; time < 60; time++) {
            due("begin", x.begin(13, 0, 0), INVALID);
            due("observe", x.observe(99, 1), NOT_POSSIBLE);
            due("move", x.move(0, 100), INVALID);
        }
        dueSame("behind 180 errors", x, used());
        for (int left = 3; left >= 0; left--) {
            due("undo()", x.undo(), left);
        }
        due("undo()", x.undo(), NOT_POSSIBLE);
    }
}
