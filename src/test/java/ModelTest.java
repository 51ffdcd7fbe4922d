import java.util.Random;

/** Long runs of calls, always the same ones, with each answer compared with the model's. */
public final class ModelTest {
    private static final int RUNS = 1500;
    private static final int CALLS = 512;

    private static final Checks checks = new Checks("ModelTest");

    private final Random random;
    private final ParticleLines program = new ParticleLines();
    private final Model model = new Model();
    // How often calls lengthen the line of generations, in hundredths.
    private final int growth;
    private String waiting = "";

    private ModelTest(int run) {
        random = new Random(run);
        growth = 10 + random.nextInt(60);
    }

    public static void main(String[] args) {
        for (int run = 0; run < RUNS && checks.wrong() == 0; run++) {
            checks.part("run " + run);
            ModelTest test = new ModelTest(run);
            for (int call = 0; call < CALLS && checks.wrong() == 0; call++) {
                test.call();
            }
            test.compareAll();
        }
        checks.end();
    }

    private int below(int bound) {
        return random.nextInt(bound);
    }

    private boolean inHundred(int chance) {
        return below(100) < chance;
    }

    /** Mostly from low to high, the ends often; at times outside. */
    private int around(int low, int high) {
        int chance = below(40);
        switch (chance) {
            case 0: return low - 1;
            case 1: return high + 1;
            case 2: return below(8) == 0 ? random.nextInt() : low;
            case 3: case 4: return low;
            case 5: case 6: return high;
            default: return low + below(high - low + 1);
        }
    }

    private int particle() {
        return around(0, model.count(0) - 1);
    }

    private int generation() {
        return around(0, model.count(1) - 1);
    }

    private void call() {
        if (!waiting.isEmpty()) {
            int character = waiting.charAt(0);
            waiting = waiting.substring(1);
            due("type(" + character + ")", program.type(character), model.type(character));
        } else if (inHundred(growth)) {
            grow();
        } else if (inHundred(30)) {
            alter();
        } else if (inHundred(12)) {
            text();
        } else if (inHundred(10)) {
            compareAll();
        } else {
            ask();
        }
    }

    // With these an object gets more than 512 calls, but no change more: the program counts none.
    private void compareAll() {
        for (int what = 0; what <= 22; what++) {
            due("count(" + what + ")", program.count(what), model.count(what));
        }
        for (int k = 0; k < model.count(0); k++) {
            for (int what = 0; what <= 6; what++) {
                due("particleOf(" + k + ", " + what + ")", program.particleOf(k, what), model.particleOf(k, what));
            }
            for (int scheme = 0; scheme <= 2; scheme++) {
                due("would(" + scheme + ", " + k + ")", program.would(scheme, k), model.would(scheme, k));
            }
        }
        for (int g = 0; g < model.count(1); g++) {
            for (int what = 0; what <= 5; what++) {
                due("generationOf(" + g + ", " + what + ")", program.generationOf(g, what),
                        model.generationOf(g, what));
            }
        }
    }

    private void due(String call, int got, int want) {
        checks.due(call, got, want);
    }

    private void grow() {
        switch (below(4)) {
            case 0: {
                int drift = inHundred(50) ? around(-9, 9) : around(-99, 99);
                int spread = inHundred(50) ? around(0, 9) : around(0, 99);
                due("move(" + drift + ", " + spread + ")", program.move(drift, spread), model.move(drift, spread));
                return;
            }
            case 1: case 2: {
                int place = inHundred(70) ? model.particleOf(0, 0) : around(0, 99);
                int width = inHundred(50) ? around(1, 99) : around(1, 12);
                due("observe(" + place + ", " + width + ")", program.observe(place, width),
                        model.observe(place, width));
                return;
            }
            default:
                due("resample()", program.resample(), model.resample());
        }
    }

    private void alter() {
        switch (below(10)) {
            case 0: {
                if (inHundred(60)) {
                    due("undo()", program.undo(), model.undo());
                    return;
                }
                int many = around(1, 12);
                int first = around(0, 99);
                int step = inHundred(80) ? around(0, 9) : around(0, 99);
                due("begin(" + many + ", " + first + ", " + step + ")", program.begin(many, first, step),
                        model.begin(many, first, step));
                return;
            }
            case 1: case 2: {
                due("undo()", program.undo(), model.undo());
                return;
            }
            case 3: case 4: case 5: {
                int what = around(0, 2);
                int value = inHundred(50) ? around(0, 2) : around(0, what == 0 ? 12 : what == 1 ? 2 : 99);
                due("set(" + what + ", " + value + ")", program.set(what, value), model.set(what, value));
                return;
            }
            default: {
                int particle = particle();
                int weight = inHundred(30) ? 0 : inHundred(70) ? around(0, 12) : around(0, 1000000);
                due("weigh(" + particle + ", " + weight + ")", program.weigh(particle, weight),
                        model.weigh(particle, weight));
            }
        }
    }

    private void text() {
        switch (below(4)) {
            case 0: {
                due("clearText()", program.clearText(), model.clearText());
                waiting = script();
                return;
            }
            case 1: {
                due("play()", program.play(), model.play());
                return;
            }
            case 2: {
                int character = around(32, 126);
                due("type(" + character + ")", program.type(character), model.type(character));
                return;
            }
            default: {
                for (int what = -1; what <= 3; what++) {
                    due("fault(" + what + ")", program.fault(what), model.fault(what));
                }
            }
        }
    }

    private String script() {
        StringBuilder text = new StringBuilder();
        int orders = inHundred(20) ? 31 : below(8);
        for (int k = 0; k < orders; k++) {
            switch (orders > 8 ? 4 : below(5)) {
                case 0: case 1:
                    text.append(inHundred(40) ? "m-" : "m").append(number(99)).append(',').append(number(99));
                    break;
                case 2: case 3:
                    text.append('o').append(inHundred(70) ? model.particleOf(0, 0) : below(100)).append(',')
                            .append(number(40));
                    break;
                default:
                    text.append('r');
            }
            text.append(';');
        }
        if (inHundred(40) && text.length() > 0) {
            int index = below(text.length());
            switch (below(3)) {
                case 0: text.deleteCharAt(index); break;
                case 1: text.setCharAt(index, "mor;,-0159 x".charAt(below(12))); break;
                default: text.insert(index, "mor;,-0159 x".charAt(below(12)));
            }
        }
        return text.toString();
    }

    private String number(int greatest) {
        int number = inHundred(60) ? below(greatest + 1) : below(10);
        return number < 10 && inHundred(30) ? "0" + number : "" + number;
    }

    private void ask() {
        switch (below(9)) {
            case 0: {
                int particle = particle();
                int what = around(0, 6);
                due("particleOf(" + particle + ", " + what + ")", program.particleOf(particle, what),
                        model.particleOf(particle, what));
                return;
            }
            case 1: {
                int generation = generation();
                int what = around(0, 5);
                due("generationOf(" + generation + ", " + what + ")", program.generationOf(generation, what),
                        model.generationOf(generation, what));
                return;
            }
            case 2: {
                int particle = particle();
                int generation = generation();
                int what = around(0, 1);
                due("ancestor(" + particle + ", " + generation + ", " + what + ")",
                        program.ancestor(particle, generation, what), model.ancestor(particle, generation, what));
                return;
            }
            case 3: {
                int one = particle();
                int other = particle();
                due("common(" + one + ", " + other + ")", program.common(one, other), model.common(one, other));
                return;
            }
            case 4: {
                due("root()", program.root(), model.root());
                return;
            }
            case 5: {
                int generation = generation();
                int part = around(0, 1);
                due("mean(" + generation + ", " + part + ")", program.mean(generation, part),
                        model.mean(generation, part));
                return;
            }
            case 6: {
                int generation = generation();
                int low = around(0, 99);
                int high = around(0, 99);
                int part = around(0, 1);
                due("share(" + generation + ", " + low + ", " + high + ", " + part + ")",
                        program.share(generation, low, high, part), model.share(generation, low, high, part));
                return;
            }
            case 7: {
                int scheme = around(0, 2);
                int particle = particle();
                due("would(" + scheme + ", " + particle + ")", program.would(scheme, particle),
                        model.would(scheme, particle));
                return;
            }
            default: {
                int what = inHundred(80) ? around(0, 10) : around(20, 22);
                due("count(" + what + ")", program.count(what), model.count(what));
            }
        }
    }
}
